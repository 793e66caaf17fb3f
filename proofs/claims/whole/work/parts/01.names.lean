-- ===== PART A: goes FIRST, ahead of the names: the tables' words, and 'selects' of the private methods out of them =====
/-- a private method of a class that the tables say can be made, by its rows of tables_1 -/
def lw_okq (q : MethodName × Nat) : Prop := (q.1.cls ≠ "java/lang/invoke/MethodHandle" ∧ q.1.cls ≠ "java/lang/invoke/VarHandle") ∧ Cond.instantiable q.1.cls q.2 ∈ tables_1 ∧ Cond.privateMethod q.1 ∈ tables_1 ∧ Cond.instanceMethod q.1 ∈ tables_1
theorem lw_p0 : lw_okq (⟨"MoodBread", "refuse", "(I)I"⟩, 17) := ⟨⟨by decide +kernel, by decide +kernel⟩, List.mem_of_getElem? (i := 23) (by decide +kernel), List.mem_of_getElem? (i := 435) (by decide +kernel), List.mem_of_getElem? (i := 436) (by decide +kernel)⟩
theorem lw_p1 : lw_okq (⟨"MoodBread", "putBytes", "(I)V"⟩, 17) := ⟨⟨by decide +kernel, by decide +kernel⟩, List.mem_of_getElem? (i := 23) (by decide +kernel), List.mem_of_getElem? (i := 439) (by decide +kernel), List.mem_of_getElem? (i := 440) (by decide +kernel)⟩
theorem lw_p2 : lw_okq (⟨"MoodBread$Reader", "wordNumber", "()I"⟩, 9) := ⟨⟨by decide +kernel, by decide +kernel⟩, List.mem_of_getElem? (i := 43) (by decide +kernel), List.mem_of_getElem? (i := 476) (by decide +kernel), List.mem_of_getElem? (i := 477) (by decide +kernel)⟩
theorem lw_p3 : lw_okq (⟨"MoodBread$Reader", "letters", "()I"⟩, 9) := ⟨⟨by decide +kernel, by decide +kernel⟩, List.mem_of_getElem? (i := 43) (by decide +kernel), List.mem_of_getElem? (i := 531) (by decide +kernel), List.mem_of_getElem? (i := 532) (by decide +kernel)⟩
theorem lw_p4 : lw_okq (⟨"MoodBread$Reader", "digits", "()I"⟩, 9) := ⟨⟨by decide +kernel, by decide +kernel⟩, List.mem_of_getElem? (i := 43) (by decide +kernel), List.mem_of_getElem? (i := 535) (by decide +kernel), List.mem_of_getElem? (i := 536) (by decide +kernel)⟩
theorem lw_p5 : lw_okq (⟨"MoodBread$TownReader", "readMood", "(LMoodBread$Town;)Z"⟩, 2) := ⟨⟨by decide +kernel, by decide +kernel⟩, List.mem_of_getElem? (i := 31) (by decide +kernel), List.mem_of_getElem? (i := 543) (by decide +kernel), List.mem_of_getElem? (i := 544) (by decide +kernel)⟩
theorem lw_p6 : lw_okq (⟨"MoodBread$TownReader", "readNew", "(LMoodBread$Town;I)Z"⟩, 2) := ⟨⟨by decide +kernel, by decide +kernel⟩, List.mem_of_getElem? (i := 31) (by decide +kernel), List.mem_of_getElem? (i := 547) (by decide +kernel), List.mem_of_getElem? (i := 548) (by decide +kernel)⟩
theorem lw_p7 : lw_okq (⟨"MoodBread$TownReader", "readPerson", "(LMoodBread$Town;)Z"⟩, 2) := ⟨⟨by decide +kernel, by decide +kernel⟩, List.mem_of_getElem? (i := 31) (by decide +kernel), List.mem_of_getElem? (i := 570) (by decide +kernel), List.mem_of_getElem? (i := 571) (by decide +kernel)⟩
theorem lw_p8 : lw_okq (⟨"MoodBread$TownReader", "readLoaf", "(LMoodBread$Town;)Z"⟩, 2) := ⟨⟨by decide +kernel, by decide +kernel⟩, List.mem_of_getElem? (i := 31) (by decide +kernel), List.mem_of_getElem? (i := 590) (by decide +kernel), List.mem_of_getElem? (i := 591) (by decide +kernel)⟩
theorem lw_p9 : lw_okq (⟨"MoodBread$TownReader", "findNamed", "(LMoodBread$Town;I)I"⟩, 2) := ⟨⟨by decide +kernel, by decide +kernel⟩, List.mem_of_getElem? (i := 31) (by decide +kernel), List.mem_of_getElem? (i := 594) (by decide +kernel), List.mem_of_getElem? (i := 595) (by decide +kernel)⟩
theorem lw_p10 : lw_okq (⟨"MoodBread$TownReader", "readMeal", "(LMoodBread$Town;)Z"⟩, 2) := ⟨⟨by decide +kernel, by decide +kernel⟩, List.mem_of_getElem? (i := 31) (by decide +kernel), List.mem_of_getElem? (i := 599) (by decide +kernel), List.mem_of_getElem? (i := 600) (by decide +kernel)⟩
theorem lw_p11 : lw_okq (⟨"MoodBread$TownReader", "readDeed", "(LMoodBread$Town;)Z"⟩, 2) := ⟨⟨by decide +kernel, by decide +kernel⟩, List.mem_of_getElem? (i := 31) (by decide +kernel), List.mem_of_getElem? (i := 603) (by decide +kernel), List.mem_of_getElem? (i := 604) (by decide +kernel)⟩
theorem lw_p12 : lw_okq (⟨"MoodBread$Grammar", "test", "(LMoodBread$Code;I)Z"⟩, 2) := ⟨⟨by decide +kernel, by decide +kernel⟩, List.mem_of_getElem? (i := 37) (by decide +kernel), List.mem_of_getElem? (i := 607) (by decide +kernel), List.mem_of_getElem? (i := 608) (by decide +kernel)⟩
theorem lw_p13 : lw_okq (⟨"MoodBread$Grammar", "both", "(LMoodBread$Code;I)Z"⟩, 2) := ⟨⟨by decide +kernel, by decide +kernel⟩, List.mem_of_getElem? (i := 37) (by decide +kernel), List.mem_of_getElem? (i := 611) (by decide +kernel), List.mem_of_getElem? (i := 612) (by decide +kernel)⟩
theorem lw_p14 : lw_okq (⟨"MoodBread$Grammar", "fact", "(LMoodBread$Code;I)Z"⟩, 2) := ⟨⟨by decide +kernel, by decide +kernel⟩, List.mem_of_getElem? (i := 37) (by decide +kernel), List.mem_of_getElem? (i := 615) (by decide +kernel), List.mem_of_getElem? (i := 616) (by decide +kernel)⟩
theorem lw_p15 : lw_okq (⟨"MoodBread$Grammar", "mayOpen", "(I)Z"⟩, 2) := ⟨⟨by decide +kernel, by decide +kernel⟩, List.mem_of_getElem? (i := 37) (by decide +kernel), List.mem_of_getElem? (i := 620) (by decide +kernel), List.mem_of_getElem? (i := 621) (by decide +kernel)⟩
def lw_privs_1 : List (MethodName × Nat) := [(⟨"MoodBread", "refuse", "(I)I"⟩, 17), (⟨"MoodBread", "putBytes", "(I)V"⟩, 17), (⟨"MoodBread$Reader", "wordNumber", "()I"⟩, 9), (⟨"MoodBread$Reader", "letters", "()I"⟩, 9), (⟨"MoodBread$Reader", "digits", "()I"⟩, 9), (⟨"MoodBread$TownReader", "readMood", "(LMoodBread$Town;)Z"⟩, 2), (⟨"MoodBread$TownReader", "readNew", "(LMoodBread$Town;I)Z"⟩, 2), (⟨"MoodBread$TownReader", "readPerson", "(LMoodBread$Town;)Z"⟩, 2), (⟨"MoodBread$TownReader", "readLoaf", "(LMoodBread$Town;)Z"⟩, 2), (⟨"MoodBread$TownReader", "findNamed", "(LMoodBread$Town;I)I"⟩, 2), (⟨"MoodBread$TownReader", "readMeal", "(LMoodBread$Town;)Z"⟩, 2), (⟨"MoodBread$TownReader", "readDeed", "(LMoodBread$Town;)Z"⟩, 2), (⟨"MoodBread$Grammar", "test", "(LMoodBread$Code;I)Z"⟩, 2), (⟨"MoodBread$Grammar", "both", "(LMoodBread$Code;I)Z"⟩, 2), (⟨"MoodBread$Grammar", "fact", "(LMoodBread$Code;I)Z"⟩, 2), (⟨"MoodBread$Grammar", "mayOpen", "(I)Z"⟩, 2)]
theorem lw_r1 : ∀ q ∈ lw_privs_1, lw_okq q := List.forall_mem_cons.mpr ⟨lw_p0, List.forall_mem_cons.mpr ⟨lw_p1, List.forall_mem_cons.mpr ⟨lw_p2, List.forall_mem_cons.mpr ⟨lw_p3, List.forall_mem_cons.mpr ⟨lw_p4, List.forall_mem_cons.mpr ⟨lw_p5, List.forall_mem_cons.mpr ⟨lw_p6, List.forall_mem_cons.mpr ⟨lw_p7, List.forall_mem_cons.mpr ⟨lw_p8, List.forall_mem_cons.mpr ⟨lw_p9, List.forall_mem_cons.mpr ⟨lw_p10, List.forall_mem_cons.mpr ⟨lw_p11, List.forall_mem_cons.mpr ⟨lw_p12, List.forall_mem_cons.mpr ⟨lw_p13, List.forall_mem_cons.mpr ⟨lw_p14, List.forall_mem_cons.mpr ⟨lw_p15, fun _ h => absurd h List.not_mem_nil⟩⟩⟩⟩⟩⟩⟩⟩⟩⟩⟩⟩⟩⟩⟩⟩
theorem lw_p16 : lw_okq (⟨"MoodBread$Grammar", "sum", "(LMoodBread$Code;I)Z"⟩, 2) := ⟨⟨by decide +kernel, by decide +kernel⟩, List.mem_of_getElem? (i := 37) (by decide +kernel), List.mem_of_getElem? (i := 640) (by decide +kernel), List.mem_of_getElem? (i := 641) (by decide +kernel)⟩
theorem lw_p17 : lw_okq (⟨"MoodBread$Grammar", "product", "(LMoodBread$Code;I)Z"⟩, 2) := ⟨⟨by decide +kernel, by decide +kernel⟩, List.mem_of_getElem? (i := 37) (by decide +kernel), List.mem_of_getElem? (i := 644) (by decide +kernel), List.mem_of_getElem? (i := 645) (by decide +kernel)⟩
theorem lw_p18 : lw_okq (⟨"MoodBread$Grammar", "part", "(LMoodBread$Code;I)Z"⟩, 2) := ⟨⟨by decide +kernel, by decide +kernel⟩, List.mem_of_getElem? (i := 37) (by decide +kernel), List.mem_of_getElem? (i := 648) (by decide +kernel), List.mem_of_getElem? (i := 649) (by decide +kernel)⟩
theorem lw_p19 : lw_okq (⟨"MoodBread$Grammar", "pair", "(LMoodBread$Code;I)Z"⟩, 2) := ⟨⟨by decide +kernel, by decide +kernel⟩, List.mem_of_getElem? (i := 37) (by decide +kernel), List.mem_of_getElem? (i := 653) (by decide +kernel), List.mem_of_getElem? (i := 654) (by decide +kernel)⟩
theorem lw_p20 : lw_okq (⟨"MoodBread$Grammar", "isAskedOfNumber", "(I)Z"⟩, 2) := ⟨⟨by decide +kernel, by decide +kernel⟩, List.mem_of_getElem? (i := 37) (by decide +kernel), List.mem_of_getElem? (i := 657) (by decide +kernel), List.mem_of_getElem? (i := 658) (by decide +kernel)⟩
theorem lw_p21 : lw_okq (⟨"MoodBread$Grammar", "isAlone", "(I)Z"⟩, 2) := ⟨⟨by decide +kernel, by decide +kernel⟩, List.mem_of_getElem? (i := 37) (by decide +kernel), List.mem_of_getElem? (i := 661) (by decide +kernel), List.mem_of_getElem? (i := 662) (by decide +kernel)⟩
theorem lw_p22 : lw_okq (⟨"MoodBread$TownReader", "readOnce", "(LMoodBread$Town;I)Z"⟩, 2) := ⟨⟨by decide +kernel, by decide +kernel⟩, List.mem_of_getElem? (i := 31) (by decide +kernel), List.mem_of_getElem? (i := 665) (by decide +kernel), List.mem_of_getElem? (i := 666) (by decide +kernel)⟩
theorem lw_p23 : lw_okq (⟨"MoodBread$TownReader", "readSetting", "(LMoodBread$Town;)Z"⟩, 2) := ⟨⟨by decide +kernel, by decide +kernel⟩, List.mem_of_getElem? (i := 31) (by decide +kernel), List.mem_of_getElem? (i := 674) (by decide +kernel), List.mem_of_getElem? (i := 675) (by decide +kernel)⟩
theorem lw_p24 : lw_okq (⟨"MoodBread", "deedsDoneNow", "()I"⟩, 17) := ⟨⟨by decide +kernel, by decide +kernel⟩, List.mem_of_getElem? (i := 23) (by decide +kernel), List.mem_of_getElem? (i := 704) (by decide +kernel), List.mem_of_getElem? (i := 705) (by decide +kernel)⟩
theorem lw_p25 : lw_okq (⟨"MoodBread$Sums", "askedOf", "(IILMoodBread$State;I)I"⟩, 5) := ⟨⟨by decide +kernel, by decide +kernel⟩, List.mem_of_getElem? (i := 232) (by decide +kernel), List.mem_of_getElem? (i := 738) (by decide +kernel), List.mem_of_getElem? (i := 739) (by decide +kernel)⟩
theorem lw_p26 : lw_okq (⟨"MoodBread$Sums", "alone", "(ILMoodBread$State;I)I"⟩, 5) := ⟨⟨by decide +kernel, by decide +kernel⟩, List.mem_of_getElem? (i := 232) (by decide +kernel), List.mem_of_getElem? (i := 743) (by decide +kernel), List.mem_of_getElem? (i := 744) (by decide +kernel)⟩
theorem lw_p27 : lw_okq (⟨"MoodBread", "isThere", "(II)Z"⟩, 17) := ⟨⟨by decide +kernel, by decide +kernel⟩, List.mem_of_getElem? (i := 23) (by decide +kernel), List.mem_of_getElem? (i := 757) (by decide +kernel), List.mem_of_getElem? (i := 758) (by decide +kernel)⟩
theorem lw_p28 : lw_okq (⟨"MoodBread", "areThere", "(III)Z"⟩, 17) := ⟨⟨by decide +kernel, by decide +kernel⟩, List.mem_of_getElem? (i := 23) (by decide +kernel), List.mem_of_getElem? (i := 765) (by decide +kernel), List.mem_of_getElem? (i := 766) (by decide +kernel)⟩
theorem lw_p29 : lw_okq (⟨"MoodBread", "isAhead", "(I)Z"⟩, 17) := ⟨⟨by decide +kernel, by decide +kernel⟩, List.mem_of_getElem? (i := 23) (by decide +kernel), List.mem_of_getElem? (i := 789) (by decide +kernel), List.mem_of_getElem? (i := 790) (by decide +kernel)⟩
theorem lw_p30 : lw_okq (⟨"MoodBread$Life", "eat", "(LMoodBread$Town;LMoodBread$State;I)V"⟩, 1) := ⟨⟨by decide +kernel, by decide +kernel⟩, List.mem_of_getElem? (i := 226) (by decide +kernel), List.mem_of_getElem? (i := 809) (by decide +kernel), List.mem_of_getElem? (i := 810) (by decide +kernel)⟩
theorem lw_p31 : lw_okq (⟨"MoodBread$Life", "sleep", "(LMoodBread$Town;LMoodBread$State;I)V"⟩, 1) := ⟨⟨by decide +kernel, by decide +kernel⟩, List.mem_of_getElem? (i := 226) (by decide +kernel), List.mem_of_getElem? (i := 819) (by decide +kernel), List.mem_of_getElem? (i := 820) (by decide +kernel)⟩
def lw_privs_2 : List (MethodName × Nat) := [(⟨"MoodBread$Grammar", "sum", "(LMoodBread$Code;I)Z"⟩, 2), (⟨"MoodBread$Grammar", "product", "(LMoodBread$Code;I)Z"⟩, 2), (⟨"MoodBread$Grammar", "part", "(LMoodBread$Code;I)Z"⟩, 2), (⟨"MoodBread$Grammar", "pair", "(LMoodBread$Code;I)Z"⟩, 2), (⟨"MoodBread$Grammar", "isAskedOfNumber", "(I)Z"⟩, 2), (⟨"MoodBread$Grammar", "isAlone", "(I)Z"⟩, 2), (⟨"MoodBread$TownReader", "readOnce", "(LMoodBread$Town;I)Z"⟩, 2), (⟨"MoodBread$TownReader", "readSetting", "(LMoodBread$Town;)Z"⟩, 2), (⟨"MoodBread", "deedsDoneNow", "()I"⟩, 17), (⟨"MoodBread$Sums", "askedOf", "(IILMoodBread$State;I)I"⟩, 5), (⟨"MoodBread$Sums", "alone", "(ILMoodBread$State;I)I"⟩, 5), (⟨"MoodBread", "isThere", "(II)Z"⟩, 17), (⟨"MoodBread", "areThere", "(III)Z"⟩, 17), (⟨"MoodBread", "isAhead", "(I)Z"⟩, 17), (⟨"MoodBread$Life", "eat", "(LMoodBread$Town;LMoodBread$State;I)V"⟩, 1), (⟨"MoodBread$Life", "sleep", "(LMoodBread$Town;LMoodBread$State;I)V"⟩, 1)]
theorem lw_r2 : ∀ q ∈ lw_privs_2, lw_okq q := List.forall_mem_cons.mpr ⟨lw_p16, List.forall_mem_cons.mpr ⟨lw_p17, List.forall_mem_cons.mpr ⟨lw_p18, List.forall_mem_cons.mpr ⟨lw_p19, List.forall_mem_cons.mpr ⟨lw_p20, List.forall_mem_cons.mpr ⟨lw_p21, List.forall_mem_cons.mpr ⟨lw_p22, List.forall_mem_cons.mpr ⟨lw_p23, List.forall_mem_cons.mpr ⟨lw_p24, List.forall_mem_cons.mpr ⟨lw_p25, List.forall_mem_cons.mpr ⟨lw_p26, List.forall_mem_cons.mpr ⟨lw_p27, List.forall_mem_cons.mpr ⟨lw_p28, List.forall_mem_cons.mpr ⟨lw_p29, List.forall_mem_cons.mpr ⟨lw_p30, List.forall_mem_cons.mpr ⟨lw_p31, fun _ h => absurd h List.not_mem_nil⟩⟩⟩⟩⟩⟩⟩⟩⟩⟩⟩⟩⟩⟩⟩⟩
theorem lw_p32 : lw_okq (⟨"MoodBread", "unlikeness", "(II)I"⟩, 17) := ⟨⟨by decide +kernel, by decide +kernel⟩, List.mem_of_getElem? (i := 23) (by decide +kernel), List.mem_of_getElem? (i := 871) (by decide +kernel), List.mem_of_getElem? (i := 872) (by decide +kernel)⟩
theorem lw_p33 : lw_okq (⟨"MoodBread", "followWhim", "()V"⟩, 17) := ⟨⟨by decide +kernel, by decide +kernel⟩, List.mem_of_getElem? (i := 23) (by decide +kernel), List.mem_of_getElem? (i := 902) (by decide +kernel), List.mem_of_getElem? (i := 903) (by decide +kernel)⟩
theorem lw_p34 : lw_okq (⟨"MoodBread", "draw", "(I)I"⟩, 17) := ⟨⟨by decide +kernel, by decide +kernel⟩, List.mem_of_getElem? (i := 23) (by decide +kernel), List.mem_of_getElem? (i := 906) (by decide +kernel), List.mem_of_getElem? (i := 907) (by decide +kernel)⟩
theorem lw_p35 : lw_okq (⟨"MoodBread$Guesses", "lastSeen", "()I"⟩, 8) := ⟨⟨by decide +kernel, by decide +kernel⟩, List.mem_of_getElem? (i := 326) (by decide +kernel), List.mem_of_getElem? (i := 944) (by decide +kernel), List.mem_of_getElem? (i := 945) (by decide +kernel)⟩
theorem lw_p36 : lw_okq (⟨"MoodBread$Guesses", "isAsSeen", "(LMoodBread$Town;I)Z"⟩, 8) := ⟨⟨by decide +kernel, by decide +kernel⟩, List.mem_of_getElem? (i := 326) (by decide +kernel), List.mem_of_getElem? (i := 951) (by decide +kernel), List.mem_of_getElem? (i := 952) (by decide +kernel)⟩
theorem lw_p37 : lw_okq (⟨"MoodBread", "answer", "(II)J"⟩, 17) := ⟨⟨by decide +kernel, by decide +kernel⟩, List.mem_of_getElem? (i := 23) (by decide +kernel), List.mem_of_getElem? (i := 989) (by decide +kernel), List.mem_of_getElem? (i := 990) (by decide +kernel)⟩
theorem lw_p38 : lw_okq (⟨"MoodBread$Image", "put", "(I)V"⟩, 2) := ⟨⟨by decide +kernel, by decide +kernel⟩, List.mem_of_getElem? (i := 364) (by decide +kernel), List.mem_of_getElem? (i := 1009) (by decide +kernel), List.mem_of_getElem? (i := 1010) (by decide +kernel)⟩
theorem lw_p39 : lw_okq (⟨"MoodBreadModel", "peeks", "()I"⟩, 103) := ⟨⟨by decide +kernel, by decide +kernel⟩, List.mem_of_getElem? (i := 1035) (by decide +kernel), List.mem_of_getElem? (i := 1365) (by decide +kernel), List.mem_of_getElem? (i := 1366) (by decide +kernel)⟩
theorem lw_p40 : lw_okq (⟨"MoodBreadModel", "statementTold", "()V"⟩, 103) := ⟨⟨by decide +kernel, by decide +kernel⟩, List.mem_of_getElem? (i := 1035) (by decide +kernel), List.mem_of_getElem? (i := 1369) (by decide +kernel), List.mem_of_getElem? (i := 1370) (by decide +kernel)⟩
theorem lw_p41 : lw_okq (⟨"MoodBreadModel", "fail", "(II)V"⟩, 103) := ⟨⟨by decide +kernel, by decide +kernel⟩, List.mem_of_getElem? (i := 1035) (by decide +kernel), List.mem_of_getElem? (i := 1373) (by decide +kernel), List.mem_of_getElem? (i := 1374) (by decide +kernel)⟩
theorem lw_p42 : lw_okq (⟨"MoodBreadModel", "takes", "([C)Z"⟩, 103) := ⟨⟨by decide +kernel, by decide +kernel⟩, List.mem_of_getElem? (i := 1035) (by decide +kernel), List.mem_of_getElem? (i := 1377) (by decide +kernel), List.mem_of_getElem? (i := 1378) (by decide +kernel)⟩
theorem lw_p43 : lw_okq (⟨"MoodBreadModel", "isHere", "([C)Z"⟩, 103) := ⟨⟨by decide +kernel, by decide +kernel⟩, List.mem_of_getElem? (i := 1035) (by decide +kernel), List.mem_of_getElem? (i := 1381) (by decide +kernel), List.mem_of_getElem? (i := 1382) (by decide +kernel)⟩
theorem lw_p44 : lw_okq (⟨"MoodBreadModel", "moodTold", "(I)V"⟩, 103) := ⟨⟨by decide +kernel, by decide +kernel⟩, List.mem_of_getElem? (i := 1035) (by decide +kernel), List.mem_of_getElem? (i := 1388) (by decide +kernel), List.mem_of_getElem? (i := 1389) (by decide +kernel)⟩
theorem lw_p45 : lw_okq (⟨"MoodBreadModel", "isFull", "(III)Z"⟩, 103) := ⟨⟨by decide +kernel, by decide +kernel⟩, List.mem_of_getElem? (i := 1035) (by decide +kernel), List.mem_of_getElem? (i := 1392) (by decide +kernel), List.mem_of_getElem? (i := 1393) (by decide +kernel)⟩
theorem lw_p46 : lw_okq (⟨"MoodBreadModel", "newName", "()J"⟩, 103) := ⟨⟨by decide +kernel, by decide +kernel⟩, List.mem_of_getElem? (i := 1035) (by decide +kernel), List.mem_of_getElem? (i := 1396) (by decide +kernel), List.mem_of_getElem? (i := 1397) (by decide +kernel)⟩
theorem lw_p47 : lw_okq (⟨"MoodBreadModel", "name", "()J"⟩, 103) := ⟨⟨by decide +kernel, by decide +kernel⟩, List.mem_of_getElem? (i := 1035) (by decide +kernel), List.mem_of_getElem? (i := 1400) (by decide +kernel), List.mem_of_getElem? (i := 1401) (by decide +kernel)⟩
def lw_privs_3 : List (MethodName × Nat) := [(⟨"MoodBread", "unlikeness", "(II)I"⟩, 17), (⟨"MoodBread", "followWhim", "()V"⟩, 17), (⟨"MoodBread", "draw", "(I)I"⟩, 17), (⟨"MoodBread$Guesses", "lastSeen", "()I"⟩, 8), (⟨"MoodBread$Guesses", "isAsSeen", "(LMoodBread$Town;I)Z"⟩, 8), (⟨"MoodBread", "answer", "(II)J"⟩, 17), (⟨"MoodBread$Image", "put", "(I)V"⟩, 2), (⟨"MoodBreadModel", "peeks", "()I"⟩, 103), (⟨"MoodBreadModel", "statementTold", "()V"⟩, 103), (⟨"MoodBreadModel", "fail", "(II)V"⟩, 103), (⟨"MoodBreadModel", "takes", "([C)Z"⟩, 103), (⟨"MoodBreadModel", "isHere", "([C)Z"⟩, 103), (⟨"MoodBreadModel", "moodTold", "(I)V"⟩, 103), (⟨"MoodBreadModel", "isFull", "(III)Z"⟩, 103), (⟨"MoodBreadModel", "newName", "()J"⟩, 103), (⟨"MoodBreadModel", "name", "()J"⟩, 103)]
theorem lw_r3 : ∀ q ∈ lw_privs_3, lw_okq q := List.forall_mem_cons.mpr ⟨lw_p32, List.forall_mem_cons.mpr ⟨lw_p33, List.forall_mem_cons.mpr ⟨lw_p34, List.forall_mem_cons.mpr ⟨lw_p35, List.forall_mem_cons.mpr ⟨lw_p36, List.forall_mem_cons.mpr ⟨lw_p37, List.forall_mem_cons.mpr ⟨lw_p38, List.forall_mem_cons.mpr ⟨lw_p39, List.forall_mem_cons.mpr ⟨lw_p40, List.forall_mem_cons.mpr ⟨lw_p41, List.forall_mem_cons.mpr ⟨lw_p42, List.forall_mem_cons.mpr ⟨lw_p43, List.forall_mem_cons.mpr ⟨lw_p44, List.forall_mem_cons.mpr ⟨lw_p45, List.forall_mem_cons.mpr ⟨lw_p46, List.forall_mem_cons.mpr ⟨lw_p47, fun _ h => absurd h List.not_mem_nil⟩⟩⟩⟩⟩⟩⟩⟩⟩⟩⟩⟩⟩⟩⟩⟩
theorem lw_p48 : lw_okq (⟨"MoodBreadModel", "isOwnHere", "()Z"⟩, 103) := ⟨⟨by decide +kernel, by decide +kernel⟩, List.mem_of_getElem? (i := 1035) (by decide +kernel), List.mem_of_getElem? (i := 1404) (by decide +kernel), List.mem_of_getElem? (i := 1405) (by decide +kernel)⟩
theorem lw_p49 : lw_okq (⟨"MoodBreadModel", "nameOf", "(IJ)I"⟩, 103) := ⟨⟨by decide +kernel, by decide +kernel⟩, List.mem_of_getElem? (i := 1035) (by decide +kernel), List.mem_of_getElem? (i := 1410) (by decide +kernel), List.mem_of_getElem? (i := 1411) (by decide +kernel)⟩
theorem lw_p50 : lw_okq (⟨"MoodBreadModel", "isNamed", "(IJ)V"⟩, 103) := ⟨⟨by decide +kernel, by decide +kernel⟩, List.mem_of_getElem? (i := 1035) (by decide +kernel), List.mem_of_getElem? (i := 1414) (by decide +kernel), List.mem_of_getElem? (i := 1415) (by decide +kernel)⟩
theorem lw_p51 : lw_okq (⟨"MoodBreadModel", "personTold", "(I)V"⟩, 103) := ⟨⟨by decide +kernel, by decide +kernel⟩, List.mem_of_getElem? (i := 1035) (by decide +kernel), List.mem_of_getElem? (i := 1418) (by decide +kernel), List.mem_of_getElem? (i := 1419) (by decide +kernel)⟩
theorem lw_p52 : lw_okq (⟨"MoodBreadModel", "asks", "([C)V"⟩, 103) := ⟨⟨by decide +kernel, by decide +kernel⟩, List.mem_of_getElem? (i := 1035) (by decide +kernel), List.mem_of_getElem? (i := 1422) (by decide +kernel), List.mem_of_getElem? (i := 1423) (by decide +kernel)⟩
theorem lw_p53 : lw_okq (⟨"MoodBreadModel", "number", "(II)I"⟩, 103) := ⟨⟨by decide +kernel, by decide +kernel⟩, List.mem_of_getElem? (i := 1035) (by decide +kernel), List.mem_of_getElem? (i := 1426) (by decide +kernel), List.mem_of_getElem? (i := 1427) (by decide +kernel)⟩
theorem lw_p54 : lw_okq (⟨"MoodBreadModel", "loafTold", "(I)V"⟩, 103) := ⟨⟨by decide +kernel, by decide +kernel⟩, List.mem_of_getElem? (i := 1035) (by decide +kernel), List.mem_of_getElem? (i := 1436) (by decide +kernel), List.mem_of_getElem? (i := 1437) (by decide +kernel)⟩
theorem lw_p55 : lw_okq (⟨"MoodBreadModel", "kneaderTold", "(I)V"⟩, 103) := ⟨⟨by decide +kernel, by decide +kernel⟩, List.mem_of_getElem? (i := 1035) (by decide +kernel), List.mem_of_getElem? (i := 1440) (by decide +kernel), List.mem_of_getElem? (i := 1441) (by decide +kernel)⟩
theorem lw_p56 : lw_okq (⟨"MoodBreadModel", "oneOf", "(I)I"⟩, 103) := ⟨⟨by decide +kernel, by decide +kernel⟩, List.mem_of_getElem? (i := 1035) (by decide +kernel), List.mem_of_getElem? (i := 1447) (by decide +kernel), List.mem_of_getElem? (i := 1448) (by decide +kernel)⟩
theorem lw_p57 : lw_okq (⟨"MoodBreadModel", "mealTold", "(I)V"⟩, 103) := ⟨⟨by decide +kernel, by decide +kernel⟩, List.mem_of_getElem? (i := 1035) (by decide +kernel), List.mem_of_getElem? (i := 1451) (by decide +kernel), List.mem_of_getElem? (i := 1452) (by decide +kernel)⟩
theorem lw_p58 : lw_okq (⟨"MoodBreadModel", "deedTold", "(I)V"⟩, 103) := ⟨⟨by decide +kernel, by decide +kernel⟩, List.mem_of_getElem? (i := 1035) (by decide +kernel), List.mem_of_getElem? (i := 1455) (by decide +kernel), List.mem_of_getElem? (i := 1456) (by decide +kernel)⟩
theorem lw_p59 : lw_okq (⟨"MoodBreadModel", "begins", "(I)V"⟩, 103) := ⟨⟨by decide +kernel, by decide +kernel⟩, List.mem_of_getElem? (i := 1035) (by decide +kernel), List.mem_of_getElem? (i := 1459) (by decide +kernel), List.mem_of_getElem? (i := 1460) (by decide +kernel)⟩
theorem lw_p60 : lw_okq (⟨"MoodBreadModel", "qTest", "()V"⟩, 103) := ⟨⟨by decide +kernel, by decide +kernel⟩, List.mem_of_getElem? (i := 1035) (by decide +kernel), List.mem_of_getElem? (i := 1463) (by decide +kernel), List.mem_of_getElem? (i := 1464) (by decide +kernel)⟩
theorem lw_p61 : lw_okq (⟨"MoodBreadModel", "qOpens", "(II)V"⟩, 103) := ⟨⟨by decide +kernel, by decide +kernel⟩, List.mem_of_getElem? (i := 1035) (by decide +kernel), List.mem_of_getElem? (i := 1467) (by decide +kernel), List.mem_of_getElem? (i := 1468) (by decide +kernel)⟩
theorem lw_p62 : lw_okq (⟨"MoodBreadModel", "qFact", "()V"⟩, 103) := ⟨⟨by decide +kernel, by decide +kernel⟩, List.mem_of_getElem? (i := 1035) (by decide +kernel), List.mem_of_getElem? (i := 1471) (by decide +kernel), List.mem_of_getElem? (i := 1472) (by decide +kernel)⟩
theorem lw_p63 : lw_okq (⟨"MoodBreadModel", "qCode", "(I)V"⟩, 103) := ⟨⟨by decide +kernel, by decide +kernel⟩, List.mem_of_getElem? (i := 1035) (by decide +kernel), List.mem_of_getElem? (i := 1475) (by decide +kernel), List.mem_of_getElem? (i := 1476) (by decide +kernel)⟩
def lw_privs_4 : List (MethodName × Nat) := [(⟨"MoodBreadModel", "isOwnHere", "()Z"⟩, 103), (⟨"MoodBreadModel", "nameOf", "(IJ)I"⟩, 103), (⟨"MoodBreadModel", "isNamed", "(IJ)V"⟩, 103), (⟨"MoodBreadModel", "personTold", "(I)V"⟩, 103), (⟨"MoodBreadModel", "asks", "([C)V"⟩, 103), (⟨"MoodBreadModel", "number", "(II)I"⟩, 103), (⟨"MoodBreadModel", "loafTold", "(I)V"⟩, 103), (⟨"MoodBreadModel", "kneaderTold", "(I)V"⟩, 103), (⟨"MoodBreadModel", "oneOf", "(I)I"⟩, 103), (⟨"MoodBreadModel", "mealTold", "(I)V"⟩, 103), (⟨"MoodBreadModel", "deedTold", "(I)V"⟩, 103), (⟨"MoodBreadModel", "begins", "(I)V"⟩, 103), (⟨"MoodBreadModel", "qTest", "()V"⟩, 103), (⟨"MoodBreadModel", "qOpens", "(II)V"⟩, 103), (⟨"MoodBreadModel", "qFact", "()V"⟩, 103), (⟨"MoodBreadModel", "qCode", "(I)V"⟩, 103)]
theorem lw_r4 : ∀ q ∈ lw_privs_4, lw_okq q := List.forall_mem_cons.mpr ⟨lw_p48, List.forall_mem_cons.mpr ⟨lw_p49, List.forall_mem_cons.mpr ⟨lw_p50, List.forall_mem_cons.mpr ⟨lw_p51, List.forall_mem_cons.mpr ⟨lw_p52, List.forall_mem_cons.mpr ⟨lw_p53, List.forall_mem_cons.mpr ⟨lw_p54, List.forall_mem_cons.mpr ⟨lw_p55, List.forall_mem_cons.mpr ⟨lw_p56, List.forall_mem_cons.mpr ⟨lw_p57, List.forall_mem_cons.mpr ⟨lw_p58, List.forall_mem_cons.mpr ⟨lw_p59, List.forall_mem_cons.mpr ⟨lw_p60, List.forall_mem_cons.mpr ⟨lw_p61, List.forall_mem_cons.mpr ⟨lw_p62, List.forall_mem_cons.mpr ⟨lw_p63, fun _ h => absurd h List.not_mem_nil⟩⟩⟩⟩⟩⟩⟩⟩⟩⟩⟩⟩⟩⟩⟩⟩
theorem lw_p64 : lw_okq (⟨"MoodBreadModel", "qSums", "()V"⟩, 103) := ⟨⟨by decide +kernel, by decide +kernel⟩, List.mem_of_getElem? (i := 1035) (by decide +kernel), List.mem_of_getElem? (i := 1479) (by decide +kernel), List.mem_of_getElem? (i := 1480) (by decide +kernel)⟩
theorem lw_p65 : lw_okq (⟨"MoodBreadModel", "qPartTold", "()V"⟩, 103) := ⟨⟨by decide +kernel, by decide +kernel⟩, List.mem_of_getElem? (i := 1035) (by decide +kernel), List.mem_of_getElem? (i := 1483) (by decide +kernel), List.mem_of_getElem? (i := 1484) (by decide +kernel)⟩
theorem lw_p66 : lw_okq (⟨"MoodBreadModel", "qWordOf", "(II)I"⟩, 103) := ⟨⟨by decide +kernel, by decide +kernel⟩, List.mem_of_getElem? (i := 1035) (by decide +kernel), List.mem_of_getElem? (i := 1487) (by decide +kernel), List.mem_of_getElem? (i := 1488) (by decide +kernel)⟩
theorem lw_p67 : lw_okq (⟨"MoodBreadModel", "qWordHere", "()I"⟩, 103) := ⟨⟨by decide +kernel, by decide +kernel⟩, List.mem_of_getElem? (i := 1035) (by decide +kernel), List.mem_of_getElem? (i := 1491) (by decide +kernel), List.mem_of_getElem? (i := 1492) (by decide +kernel)⟩
theorem lw_p68 : lw_okq (⟨"MoodBreadModel", "isAllowed", "(I)Z"⟩, 103) := ⟨⟨by decide +kernel, by decide +kernel⟩, List.mem_of_getElem? (i := 1035) (by decide +kernel), List.mem_of_getElem? (i := 1495) (by decide +kernel), List.mem_of_getElem? (i := 1496) (by decide +kernel)⟩
theorem lw_p69 : lw_okq (⟨"MoodBreadModel", "asksSign", "(I)V"⟩, 103) := ⟨⟨by decide +kernel, by decide +kernel⟩, List.mem_of_getElem? (i := 1035) (by decide +kernel), List.mem_of_getElem? (i := 1499) (by decide +kernel), List.mem_of_getElem? (i := 1500) (by decide +kernel)⟩
theorem lw_p70 : lw_okq (⟨"MoodBreadModel", "takesSign", "(I)Z"⟩, 103) := ⟨⟨by decide +kernel, by decide +kernel⟩, List.mem_of_getElem? (i := 1035) (by decide +kernel), List.mem_of_getElem? (i := 1503) (by decide +kernel), List.mem_of_getElem? (i := 1504) (by decide +kernel)⟩
theorem lw_p71 : lw_okq (⟨"MoodBreadModel", "qAsksWord", "(I)V"⟩, 103) := ⟨⟨by decide +kernel, by decide +kernel⟩, List.mem_of_getElem? (i := 1035) (by decide +kernel), List.mem_of_getElem? (i := 1507) (by decide +kernel), List.mem_of_getElem? (i := 1508) (by decide +kernel)⟩
theorem lw_p72 : lw_okq (⟨"MoodBreadModel", "qEndsPart", "()V"⟩, 103) := ⟨⟨by decide +kernel, by decide +kernel⟩, List.mem_of_getElem? (i := 1035) (by decide +kernel), List.mem_of_getElem? (i := 1511) (by decide +kernel), List.mem_of_getElem? (i := 1512) (by decide +kernel)⟩
theorem lw_p73 : lw_okq (⟨"MoodBreadModel", "qDrops", "()V"⟩, 103) := ⟨⟨by decide +kernel, by decide +kernel⟩, List.mem_of_getElem? (i := 1035) (by decide +kernel), List.mem_of_getElem? (i := 1515) (by decide +kernel), List.mem_of_getElem? (i := 1516) (by decide +kernel)⟩
theorem lw_p74 : lw_okq (⟨"MoodBreadModel", "qGoesOn", "()Z"⟩, 103) := ⟨⟨by decide +kernel, by decide +kernel⟩, List.mem_of_getElem? (i := 1035) (by decide +kernel), List.mem_of_getElem? (i := 1519) (by decide +kernel), List.mem_of_getElem? (i := 1520) (by decide +kernel)⟩
theorem lw_p75 : lw_okq (⟨"MoodBreadModel", "qBracket", "()I"⟩, 103) := ⟨⟨by decide +kernel, by decide +kernel⟩, List.mem_of_getElem? (i := 1035) (by decide +kernel), List.mem_of_getElem? (i := 1523) (by decide +kernel), List.mem_of_getElem? (i := 1524) (by decide +kernel)⟩
theorem lw_p76 : lw_okq (⟨"MoodBreadModel", "qDropsToBracket", "()V"⟩, 103) := ⟨⟨by decide +kernel, by decide +kernel⟩, List.mem_of_getElem? (i := 1035) (by decide +kernel), List.mem_of_getElem? (i := 1530) (by decide +kernel), List.mem_of_getElem? (i := 1531) (by decide +kernel)⟩
theorem lw_p77 : lw_okq (⟨"MoodBreadModel", "qIsOn", "(I)Z"⟩, 103) := ⟨⟨by decide +kernel, by decide +kernel⟩, List.mem_of_getElem? (i := 1035) (by decide +kernel), List.mem_of_getElem? (i := 1534) (by decide +kernel), List.mem_of_getElem? (i := 1535) (by decide +kernel)⟩
theorem lw_p78 : lw_okq (⟨"MoodBreadModel", "qDropsNots", "()V"⟩, 103) := ⟨⟨by decide +kernel, by decide +kernel⟩, List.mem_of_getElem? (i := 1035) (by decide +kernel), List.mem_of_getElem? (i := 1538) (by decide +kernel), List.mem_of_getElem? (i := 1539) (by decide +kernel)⟩
theorem lw_p79 : lw_okq (⟨"MoodBreadModel", "qGoesOnTest", "()Z"⟩, 103) := ⟨⟨by decide +kernel, by decide +kernel⟩, List.mem_of_getElem? (i := 1035) (by decide +kernel), List.mem_of_getElem? (i := 1542) (by decide +kernel), List.mem_of_getElem? (i := 1543) (by decide +kernel)⟩
def lw_privs_5 : List (MethodName × Nat) := [(⟨"MoodBreadModel", "qSums", "()V"⟩, 103), (⟨"MoodBreadModel", "qPartTold", "()V"⟩, 103), (⟨"MoodBreadModel", "qWordOf", "(II)I"⟩, 103), (⟨"MoodBreadModel", "qWordHere", "()I"⟩, 103), (⟨"MoodBreadModel", "isAllowed", "(I)Z"⟩, 103), (⟨"MoodBreadModel", "asksSign", "(I)V"⟩, 103), (⟨"MoodBreadModel", "takesSign", "(I)Z"⟩, 103), (⟨"MoodBreadModel", "qAsksWord", "(I)V"⟩, 103), (⟨"MoodBreadModel", "qEndsPart", "()V"⟩, 103), (⟨"MoodBreadModel", "qDrops", "()V"⟩, 103), (⟨"MoodBreadModel", "qGoesOn", "()Z"⟩, 103), (⟨"MoodBreadModel", "qBracket", "()I"⟩, 103), (⟨"MoodBreadModel", "qDropsToBracket", "()V"⟩, 103), (⟨"MoodBreadModel", "qIsOn", "(I)Z"⟩, 103), (⟨"MoodBreadModel", "qDropsNots", "()V"⟩, 103), (⟨"MoodBreadModel", "qGoesOnTest", "()Z"⟩, 103)]
theorem lw_r5 : ∀ q ∈ lw_privs_5, lw_okq q := List.forall_mem_cons.mpr ⟨lw_p64, List.forall_mem_cons.mpr ⟨lw_p65, List.forall_mem_cons.mpr ⟨lw_p66, List.forall_mem_cons.mpr ⟨lw_p67, List.forall_mem_cons.mpr ⟨lw_p68, List.forall_mem_cons.mpr ⟨lw_p69, List.forall_mem_cons.mpr ⟨lw_p70, List.forall_mem_cons.mpr ⟨lw_p71, List.forall_mem_cons.mpr ⟨lw_p72, List.forall_mem_cons.mpr ⟨lw_p73, List.forall_mem_cons.mpr ⟨lw_p74, List.forall_mem_cons.mpr ⟨lw_p75, List.forall_mem_cons.mpr ⟨lw_p76, List.forall_mem_cons.mpr ⟨lw_p77, List.forall_mem_cons.mpr ⟨lw_p78, List.forall_mem_cons.mpr ⟨lw_p79, fun _ h => absurd h List.not_mem_nil⟩⟩⟩⟩⟩⟩⟩⟩⟩⟩⟩⟩⟩⟩⟩⟩
theorem lw_p80 : lw_okq (⟨"MoodBreadModel", "qHasSquare", "()Z"⟩, 103) := ⟨⟨by decide +kernel, by decide +kernel⟩, List.mem_of_getElem? (i := 1035) (by decide +kernel), List.mem_of_getElem? (i := 1546) (by decide +kernel), List.mem_of_getElem? (i := 1547) (by decide +kernel)⟩
theorem lw_p81 : lw_okq (⟨"MoodBreadModel", "keepsCodes", "(I)V"⟩, 103) := ⟨⟨by decide +kernel, by decide +kernel⟩, List.mem_of_getElem? (i := 1035) (by decide +kernel), List.mem_of_getElem? (i := 1550) (by decide +kernel), List.mem_of_getElem? (i := 1551) (by decide +kernel)⟩
theorem lw_p82 : lw_okq (⟨"MoodBreadModel", "sumIsTold", "(II)V"⟩, 103) := ⟨⟨by decide +kernel, by decide +kernel⟩, List.mem_of_getElem? (i := 1035) (by decide +kernel), List.mem_of_getElem? (i := 1554) (by decide +kernel), List.mem_of_getElem? (i := 1555) (by decide +kernel)⟩
theorem lw_p83 : lw_okq (⟨"MoodBreadModel", "stands", "()V"⟩, 103) := ⟨⟨by decide +kernel, by decide +kernel⟩, List.mem_of_getElem? (i := 1035) (by decide +kernel), List.mem_of_getElem? (i := 1558) (by decide +kernel), List.mem_of_getElem? (i := 1559) (by decide +kernel)⟩
theorem lw_p84 : lw_okq (⟨"MoodBreadModel", "moodMany", "()I"⟩, 103) := ⟨⟨by decide +kernel, by decide +kernel⟩, List.mem_of_getElem? (i := 1035) (by decide +kernel), List.mem_of_getElem? (i := 1570) (by decide +kernel), List.mem_of_getElem? (i := 1571) (by decide +kernel)⟩
theorem lw_p85 : lw_okq (⟨"MoodBreadModel", "peopleMany", "()I"⟩, 103) := ⟨⟨by decide +kernel, by decide +kernel⟩, List.mem_of_getElem? (i := 1035) (by decide +kernel), List.mem_of_getElem? (i := 1574) (by decide +kernel), List.mem_of_getElem? (i := 1575) (by decide +kernel)⟩
theorem lw_p86 : lw_okq (⟨"MoodBreadModel", "loafMany", "()I"⟩, 103) := ⟨⟨by decide +kernel, by decide +kernel⟩, List.mem_of_getElem? (i := 1035) (by decide +kernel), List.mem_of_getElem? (i := 1578) (by decide +kernel), List.mem_of_getElem? (i := 1579) (by decide +kernel)⟩
theorem lw_p87 : lw_okq (⟨"MoodBreadModel", "deedMany", "()I"⟩, 103) := ⟨⟨by decide +kernel, by decide +kernel⟩, List.mem_of_getElem? (i := 1035) (by decide +kernel), List.mem_of_getElem? (i := 1582) (by decide +kernel), List.mem_of_getElem? (i := 1583) (by decide +kernel)⟩
theorem lw_p88 : lw_okq (⟨"MoodBreadModel", "hourNow", "()I"⟩, 103) := ⟨⟨by decide +kernel, by decide +kernel⟩, List.mem_of_getElem? (i := 1035) (by decide +kernel), List.mem_of_getElem? (i := 1586) (by decide +kernel), List.mem_of_getElem? (i := 1587) (by decide +kernel)⟩
theorem lw_p89 : lw_okq (⟨"MoodBreadModel", "deedsNow", "()I"⟩, 103) := ⟨⟨by decide +kernel, by decide +kernel⟩, List.mem_of_getElem? (i := 1035) (by decide +kernel), List.mem_of_getElem? (i := 1590) (by decide +kernel), List.mem_of_getElem? (i := 1591) (by decide +kernel)⟩
theorem lw_p90 : lw_okq (⟨"MoodBreadModel", "doneBy", "(I)I"⟩, 103) := ⟨⟨by decide +kernel, by decide +kernel⟩, List.mem_of_getElem? (i := 1035) (by decide +kernel), List.mem_of_getElem? (i := 1594) (by decide +kernel), List.mem_of_getElem? (i := 1595) (by decide +kernel)⟩
theorem lw_p91 : lw_okq (⟨"MoodBreadModel", "isDone", "(II)Z"⟩, 103) := ⟨⟨by decide +kernel, by decide +kernel⟩, List.mem_of_getElem? (i := 1035) (by decide +kernel), List.mem_of_getElem? (i := 1598) (by decide +kernel), List.mem_of_getElem? (i := 1599) (by decide +kernel)⟩
theorem lw_p92 : lw_okq (⟨"MoodBreadModel", "codesTell", "(I)J"⟩, 103) := ⟨⟨by decide +kernel, by decide +kernel⟩, List.mem_of_getElem? (i := 1035) (by decide +kernel), List.mem_of_getElem? (i := 1602) (by decide +kernel), List.mem_of_getElem? (i := 1603) (by decide +kernel)⟩
theorem lw_p93 : lw_okq (⟨"MoodBreadModel", "qPuts", "(J)V"⟩, 103) := ⟨⟨by decide +kernel, by decide +kernel⟩, List.mem_of_getElem? (i := 1035) (by decide +kernel), List.mem_of_getElem? (i := 1606) (by decide +kernel), List.mem_of_getElem? (i := 1607) (by decide +kernel)⟩
theorem lw_p94 : lw_okq (⟨"MoodBreadModel", "qOf", "(IJI)J"⟩, 103) := ⟨⟨by decide +kernel, by decide +kernel⟩, List.mem_of_getElem? (i := 1035) (by decide +kernel), List.mem_of_getElem? (i := 1610) (by decide +kernel), List.mem_of_getElem? (i := 1611) (by decide +kernel)⟩
theorem lw_p95 : lw_okq (⟨"MoodBreadModel", "nowOf", "(II)I"⟩, 103) := ⟨⟨by decide +kernel, by decide +kernel⟩, List.mem_of_getElem? (i := 1035) (by decide +kernel), List.mem_of_getElem? (i := 1614) (by decide +kernel), List.mem_of_getElem? (i := 1615) (by decide +kernel)⟩
def lw_privs_6 : List (MethodName × Nat) := [(⟨"MoodBreadModel", "qHasSquare", "()Z"⟩, 103), (⟨"MoodBreadModel", "keepsCodes", "(I)V"⟩, 103), (⟨"MoodBreadModel", "sumIsTold", "(II)V"⟩, 103), (⟨"MoodBreadModel", "stands", "()V"⟩, 103), (⟨"MoodBreadModel", "moodMany", "()I"⟩, 103), (⟨"MoodBreadModel", "peopleMany", "()I"⟩, 103), (⟨"MoodBreadModel", "loafMany", "()I"⟩, 103), (⟨"MoodBreadModel", "deedMany", "()I"⟩, 103), (⟨"MoodBreadModel", "hourNow", "()I"⟩, 103), (⟨"MoodBreadModel", "deedsNow", "()I"⟩, 103), (⟨"MoodBreadModel", "doneBy", "(I)I"⟩, 103), (⟨"MoodBreadModel", "isDone", "(II)Z"⟩, 103), (⟨"MoodBreadModel", "codesTell", "(I)J"⟩, 103), (⟨"MoodBreadModel", "qPuts", "(J)V"⟩, 103), (⟨"MoodBreadModel", "qOf", "(IJI)J"⟩, 103), (⟨"MoodBreadModel", "nowOf", "(II)I"⟩, 103)]
theorem lw_r6 : ∀ q ∈ lw_privs_6, lw_okq q := List.forall_mem_cons.mpr ⟨lw_p80, List.forall_mem_cons.mpr ⟨lw_p81, List.forall_mem_cons.mpr ⟨lw_p82, List.forall_mem_cons.mpr ⟨lw_p83, List.forall_mem_cons.mpr ⟨lw_p84, List.forall_mem_cons.mpr ⟨lw_p85, List.forall_mem_cons.mpr ⟨lw_p86, List.forall_mem_cons.mpr ⟨lw_p87, List.forall_mem_cons.mpr ⟨lw_p88, List.forall_mem_cons.mpr ⟨lw_p89, List.forall_mem_cons.mpr ⟨lw_p90, List.forall_mem_cons.mpr ⟨lw_p91, List.forall_mem_cons.mpr ⟨lw_p92, List.forall_mem_cons.mpr ⟨lw_p93, List.forall_mem_cons.mpr ⟨lw_p94, List.forall_mem_cons.mpr ⟨lw_p95, fun _ h => absurd h List.not_mem_nil⟩⟩⟩⟩⟩⟩⟩⟩⟩⟩⟩⟩⟩⟩⟩⟩
theorem lw_p96 : lw_okq (⟨"MoodBreadModel", "natureOf", "(II)I"⟩, 103) := ⟨⟨by decide +kernel, by decide +kernel⟩, List.mem_of_getElem? (i := 1035) (by decide +kernel), List.mem_of_getElem? (i := 1618) (by decide +kernel), List.mem_of_getElem? (i := 1619) (by decide +kernel)⟩
theorem lw_p97 : lw_okq (⟨"MoodBreadModel", "qPartOf", "(II)J"⟩, 103) := ⟨⟨by decide +kernel, by decide +kernel⟩, List.mem_of_getElem? (i := 1035) (by decide +kernel), List.mem_of_getElem? (i := 1622) (by decide +kernel), List.mem_of_getElem? (i := 1623) (by decide +kernel)⟩
theorem lw_p98 : lw_okq (⟨"MoodBreadModel", "qJoins", "(I)V"⟩, 103) := ⟨⟨by decide +kernel, by decide +kernel⟩, List.mem_of_getElem? (i := 1035) (by decide +kernel), List.mem_of_getElem? (i := 1626) (by decide +kernel), List.mem_of_getElem? (i := 1627) (by decide +kernel)⟩
theorem lw_p99 : lw_okq (⟨"MoodBreadModel", "isPerson", "(I)Z"⟩, 103) := ⟨⟨by decide +kernel, by decide +kernel⟩, List.mem_of_getElem? (i := 1035) (by decide +kernel), List.mem_of_getElem? (i := 1648) (by decide +kernel), List.mem_of_getElem? (i := 1649) (by decide +kernel)⟩
theorem lw_p100 : lw_okq (⟨"MoodBreadModel", "isMood", "(I)Z"⟩, 103) := ⟨⟨by decide +kernel, by decide +kernel⟩, List.mem_of_getElem? (i := 1035) (by decide +kernel), List.mem_of_getElem? (i := 1652) (by decide +kernel), List.mem_of_getElem? (i := 1653) (by decide +kernel)⟩
theorem lw_p101 : lw_okq (⟨"MoodBreadModel", "isLoaf", "(I)Z"⟩, 103) := ⟨⟨by decide +kernel, by decide +kernel⟩, List.mem_of_getElem? (i := 1035) (by decide +kernel), List.mem_of_getElem? (i := 1660) (by decide +kernel), List.mem_of_getElem? (i := 1661) (by decide +kernel)⟩
theorem lw_p102 : lw_okq (⟨"MoodBreadModel", "loafIs", "(II)I"⟩, 103) := ⟨⟨by decide +kernel, by decide +kernel⟩, List.mem_of_getElem? (i := 1035) (by decide +kernel), List.mem_of_getElem? (i := 1664) (by decide +kernel), List.mem_of_getElem? (i := 1665) (by decide +kernel)⟩
theorem lw_p103 : lw_okq (⟨"MoodBreadModel", "leavenOf", "(I)I"⟩, 103) := ⟨⟨by decide +kernel, by decide +kernel⟩, List.mem_of_getElem? (i := 1035) (by decide +kernel), List.mem_of_getElem? (i := 1672) (by decide +kernel), List.mem_of_getElem? (i := 1673) (by decide +kernel)⟩
theorem lw_p104 : lw_okq (⟨"MoodBreadModel", "whoKnead", "(I)I"⟩, 103) := ⟨⟨by decide +kernel, by decide +kernel⟩, List.mem_of_getElem? (i := 1035) (by decide +kernel), List.mem_of_getElem? (i := 1676) (by decide +kernel), List.mem_of_getElem? (i := 1677) (by decide +kernel)⟩
theorem lw_p105 : lw_okq (⟨"MoodBreadModel", "mealsOf", "(I)I"⟩, 103) := ⟨⟨by decide +kernel, by decide +kernel⟩, List.mem_of_getElem? (i := 1035) (by decide +kernel), List.mem_of_getElem? (i := 1680) (by decide +kernel), List.mem_of_getElem? (i := 1681) (by decide +kernel)⟩
theorem lw_p106 : lw_okq (⟨"MoodBreadModel", "isDeed", "(I)Z"⟩, 103) := ⟨⟨by decide +kernel, by decide +kernel⟩, List.mem_of_getElem? (i := 1035) (by decide +kernel), List.mem_of_getElem? (i := 1688) (by decide +kernel), List.mem_of_getElem? (i := 1689) (by decide +kernel)⟩
theorem lw_p107 : lw_okq (⟨"MoodBreadModel", "isAhead", "(I)Z"⟩, 103) := ⟨⟨by decide +kernel, by decide +kernel⟩, List.mem_of_getElem? (i := 1035) (by decide +kernel), List.mem_of_getElem? (i := 1696) (by decide +kernel), List.mem_of_getElem? (i := 1697) (by decide +kernel)⟩
theorem lw_p108 : lw_okq (⟨"MoodBreadModel", "putsAside", "()V"⟩, 103) := ⟨⟨by decide +kernel, by decide +kernel⟩, List.mem_of_getElem? (i := 1035) (by decide +kernel), List.mem_of_getElem? (i := 1701) (by decide +kernel), List.mem_of_getElem? (i := 1702) (by decide +kernel)⟩
theorem lw_p109 : lw_okq (⟨"MoodBreadModel", "hoursCome", "(I)V"⟩, 103) := ⟨⟨by decide +kernel, by decide +kernel⟩, List.mem_of_getElem? (i := 1035) (by decide +kernel), List.mem_of_getElem? (i := 1705) (by decide +kernel), List.mem_of_getElem? (i := 1706) (by decide +kernel)⟩
theorem lw_p110 : lw_okq (⟨"MoodBreadModel", "hourComes", "()V"⟩, 103) := ⟨⟨by decide +kernel, by decide +kernel⟩, List.mem_of_getElem? (i := 1035) (by decide +kernel), List.mem_of_getElem? (i := 1709) (by decide +kernel), List.mem_of_getElem? (i := 1710) (by decide +kernel)⟩
theorem lw_p111 : lw_okq (⟨"MoodBreadModel", "bakes", "(I)V"⟩, 103) := ⟨⟨by decide +kernel, by decide +kernel⟩, List.mem_of_getElem? (i := 1035) (by decide +kernel), List.mem_of_getElem? (i := 1713) (by decide +kernel), List.mem_of_getElem? (i := 1714) (by decide +kernel)⟩
def lw_privs_7 : List (MethodName × Nat) := [(⟨"MoodBreadModel", "natureOf", "(II)I"⟩, 103), (⟨"MoodBreadModel", "qPartOf", "(II)J"⟩, 103), (⟨"MoodBreadModel", "qJoins", "(I)V"⟩, 103), (⟨"MoodBreadModel", "isPerson", "(I)Z"⟩, 103), (⟨"MoodBreadModel", "isMood", "(I)Z"⟩, 103), (⟨"MoodBreadModel", "isLoaf", "(I)Z"⟩, 103), (⟨"MoodBreadModel", "loafIs", "(II)I"⟩, 103), (⟨"MoodBreadModel", "leavenOf", "(I)I"⟩, 103), (⟨"MoodBreadModel", "whoKnead", "(I)I"⟩, 103), (⟨"MoodBreadModel", "mealsOf", "(I)I"⟩, 103), (⟨"MoodBreadModel", "isDeed", "(I)Z"⟩, 103), (⟨"MoodBreadModel", "isAhead", "(I)Z"⟩, 103), (⟨"MoodBreadModel", "putsAside", "()V"⟩, 103), (⟨"MoodBreadModel", "hoursCome", "(I)V"⟩, 103), (⟨"MoodBreadModel", "hourComes", "()V"⟩, 103), (⟨"MoodBreadModel", "bakes", "(I)V"⟩, 103)]
theorem lw_r7 : ∀ q ∈ lw_privs_7, lw_okq q := List.forall_mem_cons.mpr ⟨lw_p96, List.forall_mem_cons.mpr ⟨lw_p97, List.forall_mem_cons.mpr ⟨lw_p98, List.forall_mem_cons.mpr ⟨lw_p99, List.forall_mem_cons.mpr ⟨lw_p100, List.forall_mem_cons.mpr ⟨lw_p101, List.forall_mem_cons.mpr ⟨lw_p102, List.forall_mem_cons.mpr ⟨lw_p103, List.forall_mem_cons.mpr ⟨lw_p104, List.forall_mem_cons.mpr ⟨lw_p105, List.forall_mem_cons.mpr ⟨lw_p106, List.forall_mem_cons.mpr ⟨lw_p107, List.forall_mem_cons.mpr ⟨lw_p108, List.forall_mem_cons.mpr ⟨lw_p109, List.forall_mem_cons.mpr ⟨lw_p110, List.forall_mem_cons.mpr ⟨lw_p111, fun _ h => absurd h List.not_mem_nil⟩⟩⟩⟩⟩⟩⟩⟩⟩⟩⟩⟩⟩⟩⟩⟩
theorem lw_p112 : lw_okq (⟨"MoodBreadModel", "eats", "(II)V"⟩, 103) := ⟨⟨by decide +kernel, by decide +kernel⟩, List.mem_of_getElem? (i := 1035) (by decide +kernel), List.mem_of_getElem? (i := 1717) (by decide +kernel), List.mem_of_getElem? (i := 1718) (by decide +kernel)⟩
theorem lw_p113 : lw_okq (⟨"MoodBreadModel", "made", "(IIIII)I"⟩, 103) := ⟨⟨by decide +kernel, by decide +kernel⟩, List.mem_of_getElem? (i := 1035) (by decide +kernel), List.mem_of_getElem? (i := 1721) (by decide +kernel), List.mem_of_getElem? (i := 1722) (by decide +kernel)⟩
theorem lw_p114 : lw_okq (⟨"MoodBreadModel", "sleeps", "(I)V"⟩, 103) := ⟨⟨by decide +kernel, by decide +kernel⟩, List.mem_of_getElem? (i := 1035) (by decide +kernel), List.mem_of_getElem? (i := 1726) (by decide +kernel), List.mem_of_getElem? (i := 1727) (by decide +kernel)⟩
theorem lw_p115 : lw_okq (⟨"MoodBreadModel", "takesBack", "()V"⟩, 103) := ⟨⟨by decide +kernel, by decide +kernel⟩, List.mem_of_getElem? (i := 1035) (by decide +kernel), List.mem_of_getElem? (i := 1730) (by decide +kernel), List.mem_of_getElem? (i := 1731) (by decide +kernel)⟩
theorem lw_p116 : lw_okq (⟨"MoodBreadModel", "firstDoer", "()I"⟩, 103) := ⟨⟨by decide +kernel, by decide +kernel⟩, List.mem_of_getElem? (i := 1035) (by decide +kernel), List.mem_of_getElem? (i := 1739) (by decide +kernel), List.mem_of_getElem? (i := 1740) (by decide +kernel)⟩
theorem lw_p117 : lw_okq (⟨"MoodBreadModel", "areAlike", "(II)Z"⟩, 103) := ⟨⟨by decide +kernel, by decide +kernel⟩, List.mem_of_getElem? (i := 1035) (by decide +kernel), List.mem_of_getElem? (i := 1751) (by decide +kernel), List.mem_of_getElem? (i := 1752) (by decide +kernel)⟩
theorem lw_p118 : lw_okq (⟨"MoodBreadModel", "isHands", "(I)Z"⟩, 103) := ⟨⟨by decide +kernel, by decide +kernel⟩, List.mem_of_getElem? (i := 1035) (by decide +kernel), List.mem_of_getElem? (i := 1759) (by decide +kernel), List.mem_of_getElem? (i := 1760) (by decide +kernel)⟩
theorem lw_p119 : lw_okq (⟨"MoodBreadModel", "laterBy", "(IIIII)I"⟩, 103) := ⟨⟨by decide +kernel, by decide +kernel⟩, List.mem_of_getElem? (i := 1035) (by decide +kernel), List.mem_of_getElem? (i := 1763) (by decide +kernel), List.mem_of_getElem? (i := 1764) (by decide +kernel)⟩
theorem lw_p120 : lw_okq (⟨"MoodBreadModel", "farFrom", "(II)I"⟩, 103) := ⟨⟨by decide +kernel, by decide +kernel⟩, List.mem_of_getElem? (i := 1035) (by decide +kernel), List.mem_of_getElem? (i := 1785) (by decide +kernel), List.mem_of_getElem? (i := 1786) (by decide +kernel)⟩
theorem lw_p121 : lw_okq (⟨"MoodBreadModel", "refuses", "()I"⟩, 103) := ⟨⟨by decide +kernel, by decide +kernel⟩, List.mem_of_getElem? (i := 1035) (by decide +kernel), List.mem_of_getElem? (i := 1798) (by decide +kernel), List.mem_of_getElem? (i := 1799) (by decide +kernel)⟩
theorem lw_p122 : lw_okq (⟨"MoodBreadModel", "keeps", "()V"⟩, 103) := ⟨⟨by decide +kernel, by decide +kernel⟩, List.mem_of_getElem? (i := 1035) (by decide +kernel), List.mem_of_getElem? (i := 1802) (by decide +kernel), List.mem_of_getElem? (i := 1803) (by decide +kernel)⟩
theorem lw_p123 : lw_okq (⟨"MoodBreadModel", "whim", "()V"⟩, 103) := ⟨⟨by decide +kernel, by decide +kernel⟩, List.mem_of_getElem? (i := 1035) (by decide +kernel), List.mem_of_getElem? (i := 1823) (by decide +kernel), List.mem_of_getElem? (i := 1824) (by decide +kernel)⟩
theorem lw_p124 : lw_okq (⟨"MoodBreadModel", "drawOf", "(I)I"⟩, 103) := ⟨⟨by decide +kernel, by decide +kernel⟩, List.mem_of_getElem? (i := 1035) (by decide +kernel), List.mem_of_getElem? (i := 1827) (by decide +kernel), List.mem_of_getElem? (i := 1828) (by decide +kernel)⟩
theorem lw_p125 : lw_okq (⟨"MoodBreadModel", "isKneader", "(II)Z"⟩, 103) := ⟨⟨by decide +kernel, by decide +kernel⟩, List.mem_of_getElem? (i := 1035) (by decide +kernel), List.mem_of_getElem? (i := 1846) (by decide +kernel), List.mem_of_getElem? (i := 1847) (by decide +kernel)⟩
theorem lw_p126 : lw_okq (⟨"MoodBreadModel", "lastSeen", "()I"⟩, 103) := ⟨⟨by decide +kernel, by decide +kernel⟩, List.mem_of_getElem? (i := 1035) (by decide +kernel), List.mem_of_getElem? (i := 1850) (by decide +kernel), List.mem_of_getElem? (i := 1851) (by decide +kernel)⟩
theorem lw_p127 : lw_okq (⟨"MoodBreadModel", "isSeenAt", "(I)Z"⟩, 103) := ⟨⟨by decide +kernel, by decide +kernel⟩, List.mem_of_getElem? (i := 1035) (by decide +kernel), List.mem_of_getElem? (i := 1854) (by decide +kernel), List.mem_of_getElem? (i := 1855) (by decide +kernel)⟩
def lw_privs_8 : List (MethodName × Nat) := [(⟨"MoodBreadModel", "eats", "(II)V"⟩, 103), (⟨"MoodBreadModel", "made", "(IIIII)I"⟩, 103), (⟨"MoodBreadModel", "sleeps", "(I)V"⟩, 103), (⟨"MoodBreadModel", "takesBack", "()V"⟩, 103), (⟨"MoodBreadModel", "firstDoer", "()I"⟩, 103), (⟨"MoodBreadModel", "areAlike", "(II)Z"⟩, 103), (⟨"MoodBreadModel", "isHands", "(I)Z"⟩, 103), (⟨"MoodBreadModel", "laterBy", "(IIIII)I"⟩, 103), (⟨"MoodBreadModel", "farFrom", "(II)I"⟩, 103), (⟨"MoodBreadModel", "refuses", "()I"⟩, 103), (⟨"MoodBreadModel", "keeps", "()V"⟩, 103), (⟨"MoodBreadModel", "whim", "()V"⟩, 103), (⟨"MoodBreadModel", "drawOf", "(I)I"⟩, 103), (⟨"MoodBreadModel", "isKneader", "(II)Z"⟩, 103), (⟨"MoodBreadModel", "lastSeen", "()I"⟩, 103), (⟨"MoodBreadModel", "isSeenAt", "(I)Z"⟩, 103)]
theorem lw_r8 : ∀ q ∈ lw_privs_8, lw_okq q := List.forall_mem_cons.mpr ⟨lw_p112, List.forall_mem_cons.mpr ⟨lw_p113, List.forall_mem_cons.mpr ⟨lw_p114, List.forall_mem_cons.mpr ⟨lw_p115, List.forall_mem_cons.mpr ⟨lw_p116, List.forall_mem_cons.mpr ⟨lw_p117, List.forall_mem_cons.mpr ⟨lw_p118, List.forall_mem_cons.mpr ⟨lw_p119, List.forall_mem_cons.mpr ⟨lw_p120, List.forall_mem_cons.mpr ⟨lw_p121, List.forall_mem_cons.mpr ⟨lw_p122, List.forall_mem_cons.mpr ⟨lw_p123, List.forall_mem_cons.mpr ⟨lw_p124, List.forall_mem_cons.mpr ⟨lw_p125, List.forall_mem_cons.mpr ⟨lw_p126, List.forall_mem_cons.mpr ⟨lw_p127, fun _ h => absurd h List.not_mem_nil⟩⟩⟩⟩⟩⟩⟩⟩⟩⟩⟩⟩⟩⟩⟩⟩
theorem lw_p128 : lw_okq (⟨"MoodBreadModel", "notes", "(III)V"⟩, 103) := ⟨⟨by decide +kernel, by decide +kernel⟩, List.mem_of_getElem? (i := 1035) (by decide +kernel), List.mem_of_getElem? (i := 1862) (by decide +kernel), List.mem_of_getElem? (i := 1863) (by decide +kernel)⟩
theorem lw_p129 : lw_okq (⟨"MoodBreadModel", "crowd", "(II)I"⟩, 103) := ⟨⟨by decide +kernel, by decide +kernel⟩, List.mem_of_getElem? (i := 1035) (by decide +kernel), List.mem_of_getElem? (i := 1866) (by decide +kernel), List.mem_of_getElem? (i := 1867) (by decide +kernel)⟩
theorem lw_p130 : lw_okq (⟨"MoodBreadModel", "qKind", "()I"⟩, 103) := ⟨⟨by decide +kernel, by decide +kernel⟩, List.mem_of_getElem? (i := 1035) (by decide +kernel), List.mem_of_getElem? (i := 1875) (by decide +kernel), List.mem_of_getElem? (i := 1876) (by decide +kernel)⟩
theorem lw_p131 : lw_okq (⟨"MoodBreadModel", "qTold", "(I)J"⟩, 103) := ⟨⟨by decide +kernel, by decide +kernel⟩, List.mem_of_getElem? (i := 1035) (by decide +kernel), List.mem_of_getElem? (i := 1880) (by decide +kernel), List.mem_of_getElem? (i := 1881) (by decide +kernel)⟩
theorem lw_p132 : lw_okq (⟨"MoodBreadModel", "qTakes", "(IJI)V"⟩, 103) := ⟨⟨by decide +kernel, by decide +kernel⟩, List.mem_of_getElem? (i := 1035) (by decide +kernel), List.mem_of_getElem? (i := 1884) (by decide +kernel), List.mem_of_getElem? (i := 1885) (by decide +kernel)⟩
theorem lw_p133 : lw_okq (⟨"MoodBreadModel", "writes", "(I)V"⟩, 103) := ⟨⟨by decide +kernel, by decide +kernel⟩, List.mem_of_getElem? (i := 1035) (by decide +kernel), List.mem_of_getElem? (i := 1892) (by decide +kernel), List.mem_of_getElem? (i := 1893) (by decide +kernel)⟩
theorem lw_p134 : lw_okq (⟨"MoodBreadModel", "isTold", "(I)Z"⟩, 103) := ⟨⟨by decide +kernel, by decide +kernel⟩, List.mem_of_getElem? (i := 1035) (by decide +kernel), List.mem_of_getElem? (i := 1907) (by decide +kernel), List.mem_of_getElem? (i := 1908) (by decide +kernel)⟩
theorem lw_p135 : lw_okq (⟨"MoodBreadModel", "loavesFrom", "()I"⟩, 103) := ⟨⟨by decide +kernel, by decide +kernel⟩, List.mem_of_getElem? (i := 1035) (by decide +kernel), List.mem_of_getElem? (i := 1911) (by decide +kernel), List.mem_of_getElem? (i := 1912) (by decide +kernel)⟩
def lw_privs_9 : List (MethodName × Nat) := [(⟨"MoodBreadModel", "notes", "(III)V"⟩, 103), (⟨"MoodBreadModel", "crowd", "(II)I"⟩, 103), (⟨"MoodBreadModel", "qKind", "()I"⟩, 103), (⟨"MoodBreadModel", "qTold", "(I)J"⟩, 103), (⟨"MoodBreadModel", "qTakes", "(IJI)V"⟩, 103), (⟨"MoodBreadModel", "writes", "(I)V"⟩, 103), (⟨"MoodBreadModel", "isTold", "(I)Z"⟩, 103), (⟨"MoodBreadModel", "loavesFrom", "()I"⟩, 103)]
theorem lw_r9 : ∀ q ∈ lw_privs_9, lw_okq q := List.forall_mem_cons.mpr ⟨lw_p128, List.forall_mem_cons.mpr ⟨lw_p129, List.forall_mem_cons.mpr ⟨lw_p130, List.forall_mem_cons.mpr ⟨lw_p131, List.forall_mem_cons.mpr ⟨lw_p132, List.forall_mem_cons.mpr ⟨lw_p133, List.forall_mem_cons.mpr ⟨lw_p134, List.forall_mem_cons.mpr ⟨lw_p135, fun _ h => absurd h List.not_mem_nil⟩⟩⟩⟩⟩⟩⟩⟩
def lw_privs : List (MethodName × Nat) := lw_privs_1 ++ (lw_privs_2 ++ (lw_privs_3 ++ (lw_privs_4 ++ (lw_privs_5 ++ (lw_privs_6 ++ (lw_privs_7 ++ (lw_privs_8 ++ (lw_privs_9))))))))
def lw_tbl : List Cond := k2_sels lw_privs ++ tables_1
theorem lw_privs_ok : ∀ q ∈ lw_privs, lw_okq q := by
  show ∀ q ∈ lw_privs_1 ++ (lw_privs_2 ++ (lw_privs_3 ++ (lw_privs_4 ++ (lw_privs_5 ++ (lw_privs_6 ++ (lw_privs_7 ++ (lw_privs_8 ++ (lw_privs_9)))))))), lw_okq q
  exact List.forall_mem_append.mpr ⟨lw_r1, List.forall_mem_append.mpr ⟨lw_r2, List.forall_mem_append.mpr ⟨lw_r3, List.forall_mem_append.mpr ⟨lw_r4, List.forall_mem_append.mpr ⟨lw_r5, List.forall_mem_append.mpr ⟨lw_r6, List.forall_mem_append.mpr ⟨lw_r7, List.forall_mem_append.mpr ⟨lw_r8, lw_r9⟩⟩⟩⟩⟩⟩⟩⟩
-- ===== end of PART A; then your names; then what follows =====
def RX0 : String := "MoodBread$Code"
def TX0 : u_T := fun k => match k with
  | 0 => ("MoodBread$Code", "steps", "[I", true)
  | _ => ("MoodBread$Code", "size", "I", false)
def tyX0 : Nat → FieldType := fun k => match k with
  | 0 => .array .int
  | _ => .int
abbrev wsX00 : List Cond := u_ws RX0 TX0 2
theorem nmX0 : ∀ a, a < 2 → ∀ b, b < 2 → a ≠ b → (TX0 a).2.1 ≠ (TX0 b).2.1 := by decide +kernel
theorem tyX0_ok : ∀ k, k < 2 → parseFieldDescriptor (TX0 k).2.2.1 = some (tyX0 k) := by decide +kernel
abbrev cX0_init : ByteArray := prog_2_method_1_code
def yX0_init : MethodName := ⟨RX0, "<init>", "()V"⟩
abbrev cX0_add : ByteArray := prog_2_method_2_code
def yX0_add : MethodName := ⟨RX0, "add", "(I)Z"⟩
def RX1 : String := "MoodBread$Grammar"
def TX1 : u_T := fun k => match k with
  | 0 => ("MoodBread$Grammar", "reader", "LMoodBread$Reader;", true)
  | _ => ("MoodBread$Grammar", "where", "I", false)
def tyX1 : Nat → FieldType := fun k => match k with
  | 0 => .object "MoodBread$Reader"
  | _ => .int
abbrev wsX10 : List Cond := u_ws RX1 TX1 2
theorem nmX1 : ∀ a, a < 2 → ∀ b, b < 2 → a ≠ b → (TX1 a).2.1 ≠ (TX1 b).2.1 := by decide +kernel
theorem tyX1_ok : ∀ k, k < 2 → parseFieldDescriptor (TX1 k).2.2.1 = some (tyX1 k) := by decide +kernel
abbrev cX1_init : ByteArray := prog_3_method_1_code
def yX1_init : MethodName := ⟨RX1, "<init>", "()V"⟩
abbrev cX1_readQuestion : ByteArray := prog_3_method_2_code
def yX1_readQuestion : MethodName := ⟨RX1, "readQuestion", "(ILMoodBread$Code;)I"⟩
abbrev cX1_test : ByteArray := prog_3_method_3_code
def yX1_test : MethodName := ⟨RX1, "test", "(LMoodBread$Code;I)Z"⟩
abbrev cX1_both : ByteArray := prog_3_method_4_code
def yX1_both : MethodName := ⟨RX1, "both", "(LMoodBread$Code;I)Z"⟩
abbrev cX1_fact : ByteArray := prog_3_method_5_code
def yX1_fact : MethodName := ⟨RX1, "fact", "(LMoodBread$Code;I)Z"⟩
abbrev cX1_sum : ByteArray := prog_3_method_6_code
def yX1_sum : MethodName := ⟨RX1, "sum", "(LMoodBread$Code;I)Z"⟩
abbrev cX1_product : ByteArray := prog_3_method_7_code
def yX1_product : MethodName := ⟨RX1, "product", "(LMoodBread$Code;I)Z"⟩
abbrev cX1_part : ByteArray := prog_3_method_8_code
def yX1_part : MethodName := ⟨RX1, "part", "(LMoodBread$Code;I)Z"⟩
abbrev cX1_pair : ByteArray := prog_3_method_9_code
def yX1_pair : MethodName := ⟨RX1, "pair", "(LMoodBread$Code;I)Z"⟩
abbrev cX1_mayOpen : ByteArray := prog_3_method_10_code
def yX1_mayOpen : MethodName := ⟨RX1, "mayOpen", "(I)Z"⟩
abbrev cX1_isAskedOfNumber : ByteArray := prog_3_method_11_code
def yX1_isAskedOfNumber : MethodName := ⟨RX1, "isAskedOfNumber", "(I)Z"⟩
abbrev cX1_isAlone : ByteArray := prog_3_method_12_code
def yX1_isAlone : MethodName := ⟨RX1, "isAlone", "(I)Z"⟩
def RX2 : String := "MoodBread$Guesses"
def TX2 : u_T := fun k => match k with
  | 0 => ("MoodBread$Guesses", "life", "LMoodBread$Life;", true)
  | 1 => ("MoodBread$Guesses", "trial", "LMoodBread$State;", true)
  | 2 => ("MoodBread$Guesses", "seen", "[I", true)
  | 3 => ("MoodBread$Guesses", "rows", "I", false)
  | 4 => ("MoodBread$Guesses", "sets", "[I", true)
  | 5 => ("MoodBread$Guesses", "found", "I", false)
  | 6 => ("MoodBread$Guesses", "foreseen", "[I", true)
  | _ => ("MoodBread$Guesses", "tally", "[I", true)
def tyX2 : Nat → FieldType := fun k => match k with
  | 0 => .object "MoodBread$Life"
  | 1 => .object "MoodBread$State"
  | 2 => .array .int
  | 3 => .int
  | 4 => .array .int
  | 5 => .int
  | 6 => .array .int
  | _ => .array .int
abbrev wsX20 : List Cond := u_ws RX2 TX2 8
theorem nmX2 : ∀ a, a < 8 → ∀ b, b < 8 → a ≠ b → (TX2 a).2.1 ≠ (TX2 b).2.1 := by decide +kernel
theorem tyX2_ok : ∀ k, k < 8 → parseFieldDescriptor (TX2 k).2.2.1 = some (tyX2 k) := by decide +kernel
abbrev cX2_init : ByteArray := prog_4_method_1_code
def yX2_init : MethodName := ⟨RX2, "<init>", "()V"⟩
abbrev cX2_readRows : ByteArray := prog_4_method_2_code
def yX2_readRows : MethodName := ⟨RX2, "readRows", "([IILMoodBread$Town;)Z"⟩
abbrev cX2_findSets : ByteArray := prog_4_method_3_code
def yX2_findSets : MethodName := ⟨RX2, "findSets", "(LMoodBread$Town;LMoodBread$State;I)V"⟩
abbrev cX2_lastSeen : ByteArray := prog_4_method_4_code
def yX2_lastSeen : MethodName := ⟨RX2, "lastSeen", "()I"⟩
abbrev cX2_isAsSeen : ByteArray := prog_4_method_5_code
def yX2_isAsSeen : MethodName := ⟨RX2, "isAsSeen", "(LMoodBread$Town;I)Z"⟩
abbrev cX2_inAll : ByteArray := prog_4_method_6_code
def yX2_inAll : MethodName := ⟨RX2, "inAll", "()I"⟩
abbrev cX2_inSome : ByteArray := prog_4_method_7_code
def yX2_inSome : MethodName := ⟨RX2, "inSome", "()I"⟩
abbrev cX2_foresee : ByteArray := prog_4_method_8_code
def yX2_foresee : MethodName := ⟨RX2, "foresee", "(LMoodBread$Town;LMoodBread$State;II)V"⟩
abbrev cX2_mostAlike : ByteArray := prog_4_method_9_code
def yX2_mostAlike : MethodName := ⟨RX2, "mostAlike", "(I)I"⟩
def RX3 : String := "MoodBread$History"
def TX3 : u_T := fun k => match k with
  | 0 => ("MoodBread$History", "ring", "[LMoodBread$State;", true)
  | 1 => ("MoodBread$History", "next", "I", false)
  | _ => ("MoodBread$History", "kept", "I", false)
def tyX3 : Nat → FieldType := fun k => match k with
  | 0 => .array (.object "MoodBread$State")
  | 1 => .int
  | _ => .int
abbrev wsX30 : List Cond := u_ws RX3 TX3 3
theorem nmX3 : ∀ a, a < 3 → ∀ b, b < 3 → a ≠ b → (TX3 a).2.1 ≠ (TX3 b).2.1 := by decide +kernel
theorem tyX3_ok : ∀ k, k < 3 → parseFieldDescriptor (TX3 k).2.2.1 = some (tyX3 k) := by decide +kernel
abbrev cX3_init : ByteArray := prog_5_method_1_code
def yX3_init : MethodName := ⟨RX3, "<init>", "()V"⟩
abbrev cX3_keep : ByteArray := prog_5_method_2_code
def yX3_keep : MethodName := ⟨RX3, "keep", "(LMoodBread$State;)V"⟩
abbrev cX3_takeBack : ByteArray := prog_5_method_3_code
def yX3_takeBack : MethodName := ⟨RX3, "takeBack", "(LMoodBread$State;)Z"⟩
def RX4 : String := "MoodBread$Image"
def TX4 : u_T := fun k => match k with
  | 0 => ("MoodBread$Image", "bytes", "[I", true)
  | _ => ("MoodBread$Image", "size", "I", false)
def tyX4 : Nat → FieldType := fun k => match k with
  | 0 => .array .int
  | _ => .int
abbrev wsX40 : List Cond := u_ws RX4 TX4 2
theorem nmX4 : ∀ a, a < 2 → ∀ b, b < 2 → a ≠ b → (TX4 a).2.1 ≠ (TX4 b).2.1 := by decide +kernel
theorem tyX4_ok : ∀ k, k < 2 → parseFieldDescriptor (TX4 k).2.2.1 = some (tyX4 k) := by decide +kernel
abbrev cX4_init : ByteArray := prog_6_method_1_code
def yX4_init : MethodName := ⟨RX4, "<init>", "()V"⟩
abbrev cX4_write : ByteArray := prog_6_method_2_code
def yX4_write : MethodName := ⟨RX4, "write", "(LMoodBread$Town;LMoodBread$State;)V"⟩
abbrev cX4_put : ByteArray := prog_6_method_3_code
def yX4_put : MethodName := ⟨RX4, "put", "(I)V"⟩
abbrev cX4_check : ByteArray := prog_6_method_4_code
def yX4_check : MethodName := ⟨RX4, "check", "([II)I"⟩
abbrev cX4_isOne : ByteArray := prog_6_method_5_code
def yX4_isOne : MethodName := ⟨RX4, "isOne", "([IILMoodBread$Town;)Z"⟩
abbrev cX4_read : ByteArray := prog_6_method_6_code
def yX4_read : MethodName := ⟨RX4, "read", "([ILMoodBread$Town;LMoodBread$State;)V"⟩
def RX5 : String := "MoodBread$Life"
def TX5 : u_T := fun k => match k with
  | _ => ("MoodBread$Life", "sums", "LMoodBread$Sums;", true)
def tyX5 : Nat → FieldType := fun k => match k with
  | _ => .object "MoodBread$Sums"
abbrev wsX50 : List Cond := u_ws RX5 TX5 1
theorem nmX5 : ∀ a, a < 1 → ∀ b, b < 1 → a ≠ b → (TX5 a).2.1 ≠ (TX5 b).2.1 := by decide +kernel
theorem tyX5_ok : ∀ k, k < 1 → parseFieldDescriptor (TX5 k).2.2.1 = some (tyX5 k) := by decide +kernel
abbrev cX5_init : ByteArray := prog_7_method_1_code
def yX5_init : MethodName := ⟨RX5, "<init>", "()V"⟩
abbrev cX5_goThrough : ByteArray := prog_7_method_2_code
def yX5_goThrough : MethodName := ⟨RX5, "goThrough", "(LMoodBread$Town;LMoodBread$State;I)V"⟩
abbrev cX5_hourComes : ByteArray := prog_7_method_3_code
def yX5_hourComes : MethodName := ⟨RX5, "hourComes", "(LMoodBread$Town;LMoodBread$State;)V"⟩
abbrev cX5_bakeLoaf : ByteArray := prog_7_method_4_code
def yX5_bakeLoaf : MethodName := ⟨RX5, "bakeLoaf", "(LMoodBread$Town;LMoodBread$State;I)V"⟩
abbrev cX5_eat : ByteArray := prog_7_method_5_code
def yX5_eat : MethodName := ⟨RX5, "eat", "(LMoodBread$Town;LMoodBread$State;I)V"⟩
abbrev cX5_sleep : ByteArray := prog_7_method_6_code
def yX5_sleep : MethodName := ⟨RX5, "sleep", "(LMoodBread$Town;LMoodBread$State;I)V"⟩
abbrev cX5_deedsDone : ByteArray := prog_7_method_7_code
def yX5_deedsDone : MethodName := ⟨RX5, "deedsDone", "(LMoodBread$Town;LMoodBread$State;I)I"⟩
abbrev cX5_valueAsked : ByteArray := prog_7_method_8_code
def yX5_valueAsked : MethodName := ⟨RX5, "valueAsked", "(LMoodBread$Town;LMoodBread$Code;LMoodBread$State;I)I"⟩
def RX6 : String := "MoodBread$Reader"
def TX6 : u_T := fun k => match k with
  | 0 => ("MoodBread$Reader", "text", "[I", true)
  | 1 => ("MoodBread$Reader", "length", "I", false)
  | 2 => ("MoodBread$Reader", "behind", "I", false)
  | 3 => ("MoodBread$Reader", "kind", "I", false)
  | 4 => ("MoodBread$Reader", "at", "I", false)
  | 5 => ("MoodBread$Reader", "word", "I", false)
  | 6 => ("MoodBread$Reader", "value", "I", false)
  | 7 => ("MoodBread$Reader", "fault", "I", false)
  | _ => ("MoodBread$Reader", "place", "I", false)
def tyX6 : Nat → FieldType := fun k => match k with
  | 0 => .array .int
  | 1 => .int
  | 2 => .int
  | 3 => .int
  | 4 => .int
  | 5 => .int
  | 6 => .int
  | 7 => .int
  | _ => .int
abbrev wsX60 : List Cond := u_ws RX6 TX6 9
theorem nmX6 : ∀ a, a < 9 → ∀ b, b < 9 → a ≠ b → (TX6 a).2.1 ≠ (TX6 b).2.1 := by decide +kernel
theorem tyX6_ok : ∀ k, k < 9 → parseFieldDescriptor (TX6 k).2.2.1 = some (tyX6 k) := by decide +kernel
abbrev cX6_init : ByteArray := prog_8_method_1_code
def yX6_init : MethodName := ⟨RX6, "<init>", "()V"⟩
abbrev cX6_start : ByteArray := prog_8_method_2_code
def yX6_start : MethodName := ⟨RX6, "start", "(I)V"⟩
abbrev cX6_next : ByteArray := prog_8_method_3_code
def yX6_next : MethodName := ⟨RX6, "next", "()V"⟩
abbrev cX6_letters : ByteArray := prog_8_method_4_code
def yX6_letters : MethodName := ⟨RX6, "letters", "()I"⟩
abbrev cX6_digits : ByteArray := prog_8_method_5_code
def yX6_digits : MethodName := ⟨RX6, "digits", "()I"⟩
abbrev cX6_wordNumber : ByteArray := prog_8_method_6_code
def yX6_wordNumber : MethodName := ⟨RX6, "wordNumber", "()I"⟩
abbrev cX6_isBlank : ByteArray := prog_8_method_7_code
def yX6_isBlank : MethodName := ⟨RX6, "isBlank", "(I)Z"⟩
abbrev cX6_sortOf : ByteArray := prog_8_method_8_code
def yX6_sortOf : MethodName := ⟨RX6, "sortOf", "(I)I"⟩
abbrev cX6_size : ByteArray := prog_8_method_9_code
def yX6_size : MethodName := ⟨RX6, "size", "()I"⟩
abbrev cX6_isWord : ByteArray := prog_8_method_10_code
def yX6_isWord : MethodName := ⟨RX6, "isWord", "(I)Z"⟩
abbrev cX6_isSign : ByteArray := prog_8_method_11_code
def yX6_isSign : MethodName := ⟨RX6, "isSign", "(I)Z"⟩
abbrev cX6_wrong : ByteArray := prog_8_method_12_code
def yX6_wrong : MethodName := ⟨RX6, "wrong", "(II)Z"⟩
abbrev cX6_takeWord : ByteArray := prog_8_method_13_code
def yX6_takeWord : MethodName := ⟨RX6, "takeWord", "(I)Z"⟩
abbrev cX6_takeSign : ByteArray := prog_8_method_14_code
def yX6_takeSign : MethodName := ⟨RX6, "takeSign", "(I)Z"⟩
abbrev cX6_checkNumber : ByteArray := prog_8_method_15_code
def yX6_checkNumber : MethodName := ⟨RX6, "checkNumber", "()Z"⟩
abbrev cX6_takeNumber : ByteArray := prog_8_method_16_code
def yX6_takeNumber : MethodName := ⟨RX6, "takeNumber", "(I)I"⟩
abbrev cX6_checkName : ByteArray := prog_8_method_17_code
def yX6_checkName : MethodName := ⟨RX6, "checkName", "()Z"⟩
def RX7 : String := "MoodBread$State"
def TX7 : u_T := fun k => match k with
  | 0 => ("MoodBread$State", "hour", "I", false)
  | 1 => ("MoodBread$State", "natures", "[I", true)
  | 2 => ("MoodBread$State", "felt", "[I", true)
  | 3 => ("MoodBread$State", "baked", "[I", true)
  | _ => ("MoodBread$State", "kneading", "[I", true)
def tyX7 : Nat → FieldType := fun k => match k with
  | 0 => .int
  | 1 => .array .int
  | 2 => .array .int
  | 3 => .array .int
  | _ => .array .int
abbrev wsX70 : List Cond := u_ws RX7 TX7 5
theorem nmX7 : ∀ a, a < 5 → ∀ b, b < 5 → a ≠ b → (TX7 a).2.1 ≠ (TX7 b).2.1 := by decide +kernel
theorem tyX7_ok : ∀ k, k < 5 → parseFieldDescriptor (TX7 k).2.2.1 = some (tyX7 k) := by decide +kernel
abbrev cX7_init : ByteArray := prog_9_method_1_code
def yX7_init : MethodName := ⟨RX7, "<init>", "()V"⟩
abbrev cX7_begin : ByteArray := prog_9_method_2_code
def yX7_begin : MethodName := ⟨RX7, "begin", "(LMoodBread$Town;)V"⟩
abbrev cX7_takeOver : ByteArray := prog_9_method_3_code
def yX7_takeOver : MethodName := ⟨RX7, "takeOver", "(LMoodBread$State;)V"⟩
abbrev cX7_isLike : ByteArray := prog_9_method_4_code
def yX7_isLike : MethodName := ⟨RX7, "isLike", "(LMoodBread$State;)Z"⟩
abbrev cX7_copy : ByteArray := prog_9_method_5_code
def yX7_copy : MethodName := ⟨RX7, "copy", "([I[I)V"⟩
abbrev cX7_areLike : ByteArray := prog_9_method_6_code
def yX7_areLike : MethodName := ⟨RX7, "areLike", "([I[I)Z"⟩
def RX8 : String := "MoodBread$Sums"
def TX8 : u_T := fun k => match k with
  | 0 => ("MoodBread$Sums", "stack", "[I", true)
  | 1 => ("MoodBread$Sums", "moods", "I", false)
  | 2 => ("MoodBread$Sums", "which", "I", false)
  | 3 => ("MoodBread$Sums", "bread", "I", false)
  | _ => ("MoodBread$Sums", "done", "I", false)
def tyX8 : Nat → FieldType := fun k => match k with
  | 0 => .array .int
  | 1 => .int
  | 2 => .int
  | 3 => .int
  | _ => .int
abbrev wsX80 : List Cond := u_ws RX8 TX8 5
theorem nmX8 : ∀ a, a < 5 → ∀ b, b < 5 → a ≠ b → (TX8 a).2.1 ≠ (TX8 b).2.1 := by decide +kernel
theorem tyX8_ok : ∀ k, k < 5 → parseFieldDescriptor (TX8 k).2.2.1 = some (tyX8 k) := by decide +kernel
abbrev cX8_init : ByteArray := prog_10_method_1_code
def yX8_init : MethodName := ⟨RX8, "<init>", "()V"⟩
abbrev cX8_value : ByteArray := prog_10_method_2_code
def yX8_value : MethodName := ⟨RX8, "value", "([IIILMoodBread$State;I)I"⟩
abbrev cX8_needed : ByteArray := prog_10_method_3_code
def yX8_needed : MethodName := ⟨RX8, "needed", "(I)I"⟩
abbrev cX8_joined : ByteArray := prog_10_method_4_code
def yX8_joined : MethodName := ⟨RX8, "joined", "(III)I"⟩
abbrev cX8_held : ByteArray := prog_10_method_5_code
def yX8_held : MethodName := ⟨RX8, "held", "(J)I"⟩
abbrev cX8_askedOf : ByteArray := prog_10_method_6_code
def yX8_askedOf : MethodName := ⟨RX8, "askedOf", "(IILMoodBread$State;I)I"⟩
abbrev cX8_alone : ByteArray := prog_10_method_7_code
def yX8_alone : MethodName := ⟨RX8, "alone", "(ILMoodBread$State;I)I"⟩
def RX9 : String := "MoodBread$Town"
def TX9 : u_T := fun k => match k with
  | 0 => ("MoodBread$Town", "statements", "I", false)
  | 1 => ("MoodBread$Town", "counts", "[I", true)
  | 2 => ("MoodBread$Town", "names", "[I", true)
  | 3 => ("MoodBread$Town", "natures", "[I", true)
  | 4 => ("MoodBread$Town", "leavens", "[I", true)
  | 5 => ("MoodBread$Town", "kneading", "[I", true)
  | 6 => ("MoodBread$Town", "eaters", "[I", true)
  | 7 => ("MoodBread$Town", "eaten", "[I", true)
  | 8 => ("MoodBread$Town", "mealClocks", "[I", true)
  | 9 => ("MoodBread$Town", "code", "LMoodBread$Code;", true)
  | 10 => ("MoodBread$Town", "from", "[I", true)
  | 11 => ("MoodBread$Town", "to", "[I", true)
  | 12 => ("MoodBread$Town", "bake", "I", false)
  | 13 => ("MoodBread$Town", "evening", "I", false)
  | 14 => ("MoodBread$Town", "whim", "I", false)
  | _ => ("MoodBread$Town", "busyClocks", "I", false)
def tyX9 : Nat → FieldType := fun k => match k with
  | 0 => .int
  | 1 => .array .int
  | 2 => .array .int
  | 3 => .array .int
  | 4 => .array .int
  | 5 => .array .int
  | 6 => .array .int
  | 7 => .array .int
  | 8 => .array .int
  | 9 => .object "MoodBread$Code"
  | 10 => .array .int
  | 11 => .array .int
  | 12 => .int
  | 13 => .int
  | 14 => .int
  | _ => .int
abbrev wsX90 : List Cond := u_ws RX9 TX9 16
theorem nmX9 : ∀ a, a < 16 → ∀ b, b < 16 → a ≠ b → (TX9 a).2.1 ≠ (TX9 b).2.1 := by decide +kernel
theorem tyX9_ok : ∀ k, k < 16 → parseFieldDescriptor (TX9 k).2.2.1 = some (tyX9 k) := by decide +kernel
abbrev cX9_init : ByteArray := prog_11_method_1_code
def yX9_init : MethodName := ⟨RX9, "<init>", "()V"⟩
abbrev cX9_clear : ByteArray := prog_11_method_2_code
def yX9_clear : MethodName := ⟨RX9, "clear", "()V"⟩
abbrev cX9_findBusyClocks : ByteArray := prog_11_method_3_code
def yX9_findBusyClocks : MethodName := ⟨RX9, "findBusyClocks", "()V"⟩
abbrev cX9_isTold : ByteArray := prog_11_method_4_code
def yX9_isTold : MethodName := ⟨RX9, "isTold", "(I)Z"⟩
abbrev cX9_mealsOf : ByteArray := prog_11_method_5_code
def yX9_mealsOf : MethodName := ⟨RX9, "mealsOf", "(I)I"⟩
abbrev cX9_canKnead : ByteArray := prog_11_method_6_code
def yX9_canKnead : MethodName := ⟨RX9, "canKnead", "(I)Z"⟩
abbrev cX9_isNamed : ByteArray := prog_11_method_7_code
def yX9_isNamed : MethodName := ⟨RX9, "isNamed", "(I)Z"⟩
abbrev cX9_numberOf : ByteArray := prog_11_method_8_code
def yX9_numberOf : MethodName := ⟨RX9, "numberOf", "(II)I"⟩
def RX10 : String := "MoodBread$TownReader"
def TX10 : u_T := fun k => match k with
  | 0 => ("MoodBread$TownReader", "grammar", "LMoodBread$Grammar;", true)
  | _ => ("MoodBread$TownReader", "reader", "LMoodBread$Reader;", true)
def tyX10 : Nat → FieldType := fun k => match k with
  | 0 => .object "MoodBread$Grammar"
  | _ => .object "MoodBread$Reader"
abbrev wsX100 : List Cond := u_ws RX10 TX10 2
theorem nmX10 : ∀ a, a < 2 → ∀ b, b < 2 → a ≠ b → (TX10 a).2.1 ≠ (TX10 b).2.1 := by decide +kernel
theorem tyX10_ok : ∀ k, k < 2 → parseFieldDescriptor (TX10 k).2.2.1 = some (tyX10 k) := by decide +kernel
abbrev cX10_init : ByteArray := prog_12_method_1_code
def yX10_init : MethodName := ⟨RX10, "<init>", "()V"⟩
abbrev cX10_readTown : ByteArray := prog_12_method_2_code
def yX10_readTown : MethodName := ⟨RX10, "readTown", "(ILMoodBread$Town;)Z"⟩
abbrev cX10_readMood : ByteArray := prog_12_method_3_code
def yX10_readMood : MethodName := ⟨RX10, "readMood", "(LMoodBread$Town;)Z"⟩
abbrev cX10_readPerson : ByteArray := prog_12_method_4_code
def yX10_readPerson : MethodName := ⟨RX10, "readPerson", "(LMoodBread$Town;)Z"⟩
abbrev cX10_readLoaf : ByteArray := prog_12_method_5_code
def yX10_readLoaf : MethodName := ⟨RX10, "readLoaf", "(LMoodBread$Town;)Z"⟩
abbrev cX10_readMeal : ByteArray := prog_12_method_6_code
def yX10_readMeal : MethodName := ⟨RX10, "readMeal", "(LMoodBread$Town;)Z"⟩
abbrev cX10_readDeed : ByteArray := prog_12_method_7_code
def yX10_readDeed : MethodName := ⟨RX10, "readDeed", "(LMoodBread$Town;)Z"⟩
abbrev cX10_readOnce : ByteArray := prog_12_method_8_code
def yX10_readOnce : MethodName := ⟨RX10, "readOnce", "(LMoodBread$Town;I)Z"⟩
abbrev cX10_readSetting : ByteArray := prog_12_method_9_code
def yX10_readSetting : MethodName := ⟨RX10, "readSetting", "(LMoodBread$Town;)Z"⟩
abbrev cX10_readNew : ByteArray := prog_12_method_10_code
def yX10_readNew : MethodName := ⟨RX10, "readNew", "(LMoodBread$Town;I)Z"⟩
abbrev cX10_findNamed : ByteArray := prog_12_method_11_code
def yX10_findNamed : MethodName := ⟨RX10, "findNamed", "(LMoodBread$Town;I)I"⟩
def RX11 : String := "MoodBread"
def TX11 : u_T := fun k => match k with
  | 0 => ("MoodBread", "townReader", "LMoodBread$TownReader;", true)
  | 1 => ("MoodBread", "grammar", "LMoodBread$Grammar;", true)
  | 2 => ("MoodBread", "reader", "LMoodBread$Reader;", true)
  | 3 => ("MoodBread", "tape", "[I", true)
  | 4 => ("MoodBread", "taped", "I", false)
  | 5 => ("MoodBread", "question", "LMoodBread$Code;", true)
  | 6 => ("MoodBread", "current", "LMoodBread$Town;", false)
  | 7 => ("MoodBread", "spare", "LMoodBread$Town;", false)
  | 8 => ("MoodBread", "life", "LMoodBread$Life;", true)
  | 9 => ("MoodBread", "present", "LMoodBread$State;", true)
  | 10 => ("MoodBread", "trial", "LMoodBread$State;", true)
  | 11 => ("MoodBread", "dawns", "[LMoodBread$State;", true)
  | 12 => ("MoodBread", "history", "LMoodBread$History;", true)
  | 13 => ("MoodBread", "guesses", "LMoodBread$Guesses;", true)
  | 14 => ("MoodBread", "picture", "LMoodBread$Image;", true)
  | 15 => ("MoodBread", "drawn", "J", false)
  | _ => ("MoodBread", "refusals", "[I", true)
def tyX11 : Nat → FieldType := fun k => match k with
  | 0 => .object "MoodBread$TownReader"
  | 1 => .object "MoodBread$Grammar"
  | 2 => .object "MoodBread$Reader"
  | 3 => .array .int
  | 4 => .int
  | 5 => .object "MoodBread$Code"
  | 6 => .object "MoodBread$Town"
  | 7 => .object "MoodBread$Town"
  | 8 => .object "MoodBread$Life"
  | 9 => .object "MoodBread$State"
  | 10 => .object "MoodBread$State"
  | 11 => .array (.object "MoodBread$State")
  | 12 => .object "MoodBread$History"
  | 13 => .object "MoodBread$Guesses"
  | 14 => .object "MoodBread$Image"
  | 15 => .long
  | _ => .array .int
abbrev wsX110 : List Cond := u_ws RX11 TX11 17
theorem nmX11 : ∀ a, a < 17 → ∀ b, b < 17 → a ≠ b → (TX11 a).2.1 ≠ (TX11 b).2.1 := by decide +kernel
theorem tyX11_ok : ∀ k, k < 17 → parseFieldDescriptor (TX11 k).2.2.1 = some (tyX11 k) := by decide +kernel
abbrev cX11_init : ByteArray := prog_1_method_1_code
def yX11_init : MethodName := ⟨RX11, "<init>", "()V"⟩
abbrev cX11_feed : ByteArray := prog_1_method_2_code
def yX11_feed : MethodName := ⟨RX11, "feed", "(IIIII)I"⟩
abbrev cX11_end : ByteArray := prog_1_method_3_code
def yX11_end : MethodName := ⟨RX11, "end", "(I)Z"⟩
abbrev cX11_town : ByteArray := prog_1_method_4_code
def yX11_town : MethodName := ⟨RX11, "town", "()I"⟩
abbrev cX11_fault : ByteArray := prog_1_method_5_code
def yX11_fault : MethodName := ⟨RX11, "fault", "(I)I"⟩
abbrev cX11_has : ByteArray := prog_1_method_6_code
def yX11_has : MethodName := ⟨RX11, "has", "(I)I"⟩
abbrev cX11_letter : ByteArray := prog_1_method_7_code
def yX11_letter : MethodName := ⟨RX11, "letter", "(III)I"⟩
abbrev cX11_feels : ByteArray := prog_1_method_8_code
def yX11_feels : MethodName := ⟨RX11, "feels", "(III)I"⟩
abbrev cX11_bread : ByteArray := prog_1_method_9_code
def yX11_bread : MethodName := ⟨RX11, "bread", "(II)I"⟩
abbrev cX11_loaf : ByteArray := prog_1_method_10_code
def yX11_loaf : MethodName := ⟨RX11, "loaf", "(II)I"⟩
abbrev cX11_does : ByteArray := prog_1_method_11_code
def yX11_does : MethodName := ⟨RX11, "does", "(II)I"⟩
abbrev cX11_later : ByteArray := prog_1_method_12_code
def yX11_later : MethodName := ⟨RX11, "later", "(III)I"⟩
abbrev cX11_first : ByteArray := prog_1_method_13_code
def yX11_first : MethodName := ⟨RX11, "first", "(I)I"⟩
abbrev cX11_often : ByteArray := prog_1_method_14_code
def yX11_often : MethodName := ⟨RX11, "often", "(III)I"⟩
abbrev cX11_again : ByteArray := prog_1_method_15_code
def yX11_again : MethodName := ⟨RX11, "again", "(I)I"⟩
abbrev cX11_hands : ByteArray := prog_1_method_16_code
def yX11_hands : MethodName := ⟨RX11, "hands", "(IIIIII)I"⟩
abbrev cX11_blend : ByteArray := prog_1_method_17_code
def yX11_blend : MethodName := ⟨RX11, "blend", "(IIIII)I"⟩
abbrev cX11_left : ByteArray := prog_1_method_18_code
def yX11_left : MethodName := ⟨RX11, "left", "(III)I"⟩
abbrev cX11_votes : ByteArray := prog_1_method_19_code
def yX11_votes : MethodName := ⟨RX11, "votes", "(III)I"⟩
abbrev cX11_go : ByteArray := prog_1_method_20_code
def yX11_go : MethodName := ⟨RX11, "go", "(I)I"⟩
abbrev cX11_knead : ByteArray := prog_1_method_21_code
def yX11_knead : MethodName := ⟨RX11, "knead", "(II)I"⟩
abbrev cX11_calm : ByteArray := prog_1_method_22_code
def yX11_calm : MethodName := ⟨RX11, "calm", "(III)I"⟩
abbrev cX11_days : ByteArray := prog_1_method_23_code
def yX11_days : MethodName := ⟨RX11, "days", "(I)I"⟩
abbrev cX11_undo : ByteArray := prog_1_method_24_code
def yX11_undo : MethodName := ⟨RX11, "undo", "()Z"⟩
abbrev cX11_seed : ByteArray := prog_1_method_25_code
def yX11_seed : MethodName := ⟨RX11, "seed", "(I)Z"⟩
abbrev cX11_see : ByteArray := prog_1_method_26_code
def yX11_see : MethodName := ⟨RX11, "see", "()I"⟩
abbrev cX11_kneaders : ByteArray := prog_1_method_27_code
def yX11_kneaders : MethodName := ⟨RX11, "kneaders", "(II)I"⟩
abbrev cX11_look : ByteArray := prog_1_method_28_code
def yX11_look : MethodName := ⟨RX11, "look", "(III)I"⟩
abbrev cX11_ask : ByteArray := prog_1_method_29_code
def yX11_ask : MethodName := ⟨RX11, "ask", "(I)J"⟩
abbrev cX11_image : ByteArray := prog_1_method_30_code
def yX11_image : MethodName := ⟨RX11, "image", "()I"⟩
abbrev cX11_octet : ByteArray := prog_1_method_31_code
def yX11_octet : MethodName := ⟨RX11, "octet", "(I)I"⟩
abbrev cX11_on : ByteArray := prog_1_method_32_code
def yX11_on : MethodName := ⟨RX11, "on", "()Z"⟩
abbrev cX11_status : ByteArray := prog_1_method_33_code
def yX11_status : MethodName := ⟨RX11, "status", "(I)I"⟩
abbrev cX11_refuse : ByteArray := prog_1_method_34_code
def yX11_refuse : MethodName := ⟨RX11, "refuse", "(I)I"⟩
abbrev cX11_putBytes : ByteArray := prog_1_method_35_code
def yX11_putBytes : MethodName := ⟨RX11, "putBytes", "(I)V"⟩
abbrev cX11_isThere : ByteArray := prog_1_method_36_code
def yX11_isThere : MethodName := ⟨RX11, "isThere", "(II)Z"⟩
abbrev cX11_areThere : ByteArray := prog_1_method_37_code
def yX11_areThere : MethodName := ⟨RX11, "areThere", "(III)Z"⟩
abbrev cX11_isAhead : ByteArray := prog_1_method_38_code
def yX11_isAhead : MethodName := ⟨RX11, "isAhead", "(I)Z"⟩
abbrev cX11_isFelt : ByteArray := prog_1_method_39_code
def yX11_isFelt : MethodName := ⟨RX11, "isFelt", "(I)Z"⟩
abbrev cX11_asFelt : ByteArray := prog_1_method_40_code
def yX11_asFelt : MethodName := ⟨RX11, "asFelt", "(I)I"⟩
abbrev cX11_deedsDoneNow : ByteArray := prog_1_method_41_code
def yX11_deedsDoneNow : MethodName := ⟨RX11, "deedsDoneNow", "()I"⟩
abbrev cX11_lowestOf : ByteArray := prog_1_method_42_code
def yX11_lowestOf : MethodName := ⟨RX11, "lowestOf", "(I)I"⟩
abbrev cX11_unlikeness : ByteArray := prog_1_method_43_code
def yX11_unlikeness : MethodName := ⟨RX11, "unlikeness", "(II)I"⟩
abbrev cX11_followWhim : ByteArray := prog_1_method_44_code
def yX11_followWhim : MethodName := ⟨RX11, "followWhim", "()V"⟩
abbrev cX11_draw : ByteArray := prog_1_method_45_code
def yX11_draw : MethodName := ⟨RX11, "draw", "(I)I"⟩
abbrev cX11_answer : ByteArray := prog_1_method_46_code
def yX11_answer : MethodName := ⟨RX11, "answer", "(II)J"⟩
def RX12 : String := "MoodBreadModel"
def TX12 : u_T := fun k => match k with
  | 0 => ("MoodBreadModel", "tape", "[I", true)
  | 1 => ("MoodBreadModel", "taped", "I", false)
  | 2 => ("MoodBreadModel", "at", "I", false)
  | 3 => ("MoodBreadModel", "end", "I", false)
  | 4 => ("MoodBreadModel", "ended", "I", false)
  | 5 => ("MoodBreadModel", "bad", "I", false)
  | 6 => ("MoodBreadModel", "badPlace", "I", false)
  | 7 => ("MoodBreadModel", "fault", "I", false)
  | 8 => ("MoodBreadModel", "faultPlace", "I", false)
  | 9 => ("MoodBreadModel", "refused", "[I", true)
  | 10 => ("MoodBreadModel", "moodWord", "[C", true)
  | 11 => ("MoodBreadModel", "personWord", "[C", true)
  | 12 => ("MoodBreadModel", "isWord", "[C", true)
  | 13 => ("MoodBreadModel", "loafWord", "[C", true)
  | 14 => ("MoodBreadModel", "leavenWord", "[C", true)
  | 15 => ("MoodBreadModel", "byWord", "[C", true)
  | 16 => ("MoodBreadModel", "eatsWord", "[C", true)
  | 17 => ("MoodBreadModel", "atWord", "[C", true)
  | 18 => ("MoodBreadModel", "deedWord", "[C", true)
  | 19 => ("MoodBreadModel", "whenWord", "[C", true)
  | 20 => ("MoodBreadModel", "turnWord", "[C", true)
  | 21 => ("MoodBreadModel", "nightWord", "[C", true)
  | 22 => ("MoodBreadModel", "bakeWord", "[C", true)
  | 23 => ("MoodBreadModel", "eveningWord", "[C", true)
  | 24 => ("MoodBreadModel", "whimWord", "[C", true)
  | 25 => ("MoodBreadModel", "clockWord", "[C", true)
  | 26 => ("MoodBreadModel", "dayWord", "[C", true)
  | 27 => ("MoodBreadModel", "ownWord", "[C", true)
  | 28 => ("MoodBreadModel", "nowWord", "[C", true)
  | 29 => ("MoodBreadModel", "breadWord", "[C", true)
  | 30 => ("MoodBreadModel", "whichWord", "[C", true)
  | 31 => ("MoodBreadModel", "feelWord", "[C", true)
  | 32 => ("MoodBreadModel", "natureWord", "[C", true)
  | 33 => ("MoodBreadModel", "orWord", "[C", true)
  | 34 => ("MoodBreadModel", "andWord", "[C", true)
  | 35 => ("MoodBreadModel", "notWord", "[C", true)
  | 36 => ("MoodBreadModel", "allWord", "[C", true)
  | 37 => ("MoodBreadModel", "minWord", "[C", true)
  | 38 => ("MoodBreadModel", "maxWord", "[C", true)
  | 39 => ("MoodBreadModel", "namePlace", "I", false)
  | 40 => ("MoodBreadModel", "many", "[I", true)
  | 41 => ("MoodBreadModel", "names", "[J", true)
  | 42 => ("MoodBreadModel", "natures", "[I", true)
  | 43 => ("MoodBreadModel", "loaves", "[I", true)
  | 44 => ("MoodBreadModel", "meals", "[I", true)
  | 45 => ("MoodBreadModel", "settings", "[I", true)
  | 46 => ("MoodBreadModel", "codeFrom", "[I", true)
  | 47 => ("MoodBreadModel", "codeEnd", "[I", true)
  | 48 => ("MoodBreadModel", "codes", "[I", true)
  | 49 => ("MoodBreadModel", "coded", "I", false)
  | 50 => ("MoodBreadModel", "statements", "I", false)
  | 51 => ("MoodBreadModel", "textKind", "I", false)
  | 52 => ("MoodBreadModel", "now", "[I", true)
  | 53 => ("MoodBreadModel", "aside", "[I", true)
  | 54 => ("MoodBreadModel", "askOwn", "J", false)
  | 55 => ("MoodBreadModel", "askNow", "J", false)
  | 56 => ("MoodBreadModel", "askBread", "J", false)
  | 57 => ("MoodBreadModel", "askWhich", "J", false)
  | 58 => ("MoodBreadModel", "askPerson", "I", false)
  | 59 => ("MoodBreadModel", "doneSet", "I", false)
  | 60 => ("MoodBreadModel", "made0", "[I", true)
  | 61 => ("MoodBreadModel", "days0", "[I", true)
  | 62 => ("MoodBreadModel", "kept", "[I", true)
  | 63 => ("MoodBreadModel", "undoable", "I", false)
  | 64 => ("MoodBreadModel", "newest", "I", false)
  | 65 => ("MoodBreadModel", "seeded", "J", false)
  | 66 => ("MoodBreadModel", "rowMany", "I", false)
  | 67 => ("MoodBreadModel", "rows", "[I", true)
  | 68 => ("MoodBreadModel", "alike", "[I", true)
  | 69 => ("MoodBreadModel", "firstAsked", "[C", true)
  | 70 => ("MoodBreadModel", "lastAsked", "[C", true)
  | 71 => ("MoodBreadModel", "oftenAsked", "[C", true)
  | 72 => ("MoodBreadModel", "totalAsked", "[C", true)
  | 73 => ("MoodBreadModel", "mostAsked", "[C", true)
  | 74 => ("MoodBreadModel", "leastAsked", "[C", true)
  | 75 => ("MoodBreadModel", "notAsked", "[C", true)
  | 76 => ("MoodBreadModel", "andAsked", "[C", true)
  | 77 => ("MoodBreadModel", "orAsked", "[C", true)
  | 78 => ("MoodBreadModel", "allAsked", "[C", true)
  | 79 => ("MoodBreadModel", "minAsked", "[C", true)
  | 80 => ("MoodBreadModel", "maxAsked", "[C", true)
  | 81 => ("MoodBreadModel", "clockAsked", "[C", true)
  | 82 => ("MoodBreadModel", "dayAsked", "[C", true)
  | 83 => ("MoodBreadModel", "ownAsked", "[C", true)
  | 84 => ("MoodBreadModel", "nowAsked", "[C", true)
  | 85 => ("MoodBreadModel", "breadAsked", "[C", true)
  | 86 => ("MoodBreadModel", "whichAsked", "[C", true)
  | 87 => ("MoodBreadModel", "hourAsked", "[C", true)
  | 88 => ("MoodBreadModel", "feelAsked", "[C", true)
  | 89 => ("MoodBreadModel", "natureAsked", "[C", true)
  | 90 => ("MoodBreadModel", "doesAsked", "[C", true)
  | 91 => ("MoodBreadModel", "qCodes", "[I", true)
  | 92 => ("MoodBreadModel", "qCoded", "I", false)
  | 93 => ("MoodBreadModel", "qWait", "[I", true)
  | 94 => ("MoodBreadModel", "qWaits", "I", false)
  | 95 => ("MoodBreadModel", "qOpened", "I", false)
  | 96 => ("MoodBreadModel", "qBase", "I", false)
  | 97 => ("MoodBreadModel", "qPile", "[J", true)
  | 98 => ("MoodBreadModel", "qPiled", "I", false)
  | 99 => ("MoodBreadModel", "qAnswer", "J", false)
  | 100 => ("MoodBreadModel", "qIsNew", "Z", false)
  | 101 => ("MoodBreadModel", "octet", "[I", true)
  | _ => ("MoodBreadModel", "octets", "I", false)
def tyX12 : Nat → FieldType := fun k => match k with
  | 0 => .array .int
  | 1 => .int
  | 2 => .int
  | 3 => .int
  | 4 => .int
  | 5 => .int
  | 6 => .int
  | 7 => .int
  | 8 => .int
  | 9 => .array .int
  | 10 => .array .char
  | 11 => .array .char
  | 12 => .array .char
  | 13 => .array .char
  | 14 => .array .char
  | 15 => .array .char
  | 16 => .array .char
  | 17 => .array .char
  | 18 => .array .char
  | 19 => .array .char
  | 20 => .array .char
  | 21 => .array .char
  | 22 => .array .char
  | 23 => .array .char
  | 24 => .array .char
  | 25 => .array .char
  | 26 => .array .char
  | 27 => .array .char
  | 28 => .array .char
  | 29 => .array .char
  | 30 => .array .char
  | 31 => .array .char
  | 32 => .array .char
  | 33 => .array .char
  | 34 => .array .char
  | 35 => .array .char
  | 36 => .array .char
  | 37 => .array .char
  | 38 => .array .char
  | 39 => .int
  | 40 => .array .int
  | 41 => .array .long
  | 42 => .array .int
  | 43 => .array .int
  | 44 => .array .int
  | 45 => .array .int
  | 46 => .array .int
  | 47 => .array .int
  | 48 => .array .int
  | 49 => .int
  | 50 => .int
  | 51 => .int
  | 52 => .array .int
  | 53 => .array .int
  | 54 => .long
  | 55 => .long
  | 56 => .long
  | 57 => .long
  | 58 => .int
  | 59 => .int
  | 60 => .array .int
  | 61 => .array .int
  | 62 => .array .int
  | 63 => .int
  | 64 => .int
  | 65 => .long
  | 66 => .int
  | 67 => .array .int
  | 68 => .array .int
  | 69 => .array .char
  | 70 => .array .char
  | 71 => .array .char
  | 72 => .array .char
  | 73 => .array .char
  | 74 => .array .char
  | 75 => .array .char
  | 76 => .array .char
  | 77 => .array .char
  | 78 => .array .char
  | 79 => .array .char
  | 80 => .array .char
  | 81 => .array .char
  | 82 => .array .char
  | 83 => .array .char
  | 84 => .array .char
  | 85 => .array .char
  | 86 => .array .char
  | 87 => .array .char
  | 88 => .array .char
  | 89 => .array .char
  | 90 => .array .char
  | 91 => .array .int
  | 92 => .int
  | 93 => .array .int
  | 94 => .int
  | 95 => .int
  | 96 => .int
  | 97 => .array .long
  | 98 => .int
  | 99 => .long
  | 100 => .boolean
  | 101 => .array .int
  | _ => .int
abbrev wsX120 : List Cond := u_ws RX12 TX12 103
theorem nmX12 : ∀ a, a < 103 → ∀ b, b < 103 → a ≠ b → (TX12 a).2.1 ≠ (TX12 b).2.1 := by decide +kernel
theorem tyX12_ok : ∀ k, k < 103 → parseFieldDescriptor (TX12 k).2.2.1 = some (tyX12 k) := by decide +kernel
abbrev cX12_init : ByteArray := prog_14_method_1_code
def yX12_init : MethodName := ⟨RX12, "<init>", "()V"⟩
abbrev cX12_isIn : ByteArray := prog_14_method_2_code
def yX12_isIn : MethodName := ⟨RX12, "isIn", "(JJJ)Z"⟩
abbrev cX12_feed : ByteArray := prog_14_method_3_code
def yX12_feed : MethodName := ⟨RX12, "feed", "(IIIII)I"⟩
abbrev cX12_end : ByteArray := prog_14_method_4_code
def yX12_end : MethodName := ⟨RX12, "end", "(I)Z"⟩
abbrev cX12_fail : ByteArray := prog_14_method_5_code
def yX12_fail : MethodName := ⟨RX12, "fail", "(II)V"⟩
abbrev cX12_isLetter : ByteArray := prog_14_method_6_code
def yX12_isLetter : MethodName := ⟨RX12, "isLetter", "(I)Z"⟩
abbrev cX12_isDigit : ByteArray := prog_14_method_7_code
def yX12_isDigit : MethodName := ⟨RX12, "isDigit", "(I)Z"⟩
abbrev cX12_peeks : ByteArray := prog_14_method_8_code
def yX12_peeks : MethodName := ⟨RX12, "peeks", "()I"⟩
abbrev cX12_isHere : ByteArray := prog_14_method_9_code
def yX12_isHere : MethodName := ⟨RX12, "isHere", "([C)Z"⟩
abbrev cX12_takes : ByteArray := prog_14_method_10_code
def yX12_takes : MethodName := ⟨RX12, "takes", "([C)Z"⟩
abbrev cX12_asks : ByteArray := prog_14_method_11_code
def yX12_asks : MethodName := ⟨RX12, "asks", "([C)V"⟩
abbrev cX12_takesSign : ByteArray := prog_14_method_12_code
def yX12_takesSign : MethodName := ⟨RX12, "takesSign", "(I)Z"⟩
abbrev cX12_asksSign : ByteArray := prog_14_method_13_code
def yX12_asksSign : MethodName := ⟨RX12, "asksSign", "(I)V"⟩
abbrev cX12_number : ByteArray := prog_14_method_14_code
def yX12_number : MethodName := ⟨RX12, "number", "(II)I"⟩
abbrev cX12_isOwnHere : ByteArray := prog_14_method_15_code
def yX12_isOwnHere : MethodName := ⟨RX12, "isOwnHere", "()Z"⟩
abbrev cX12_name : ByteArray := prog_14_method_16_code
def yX12_name : MethodName := ⟨RX12, "name", "()J"⟩
abbrev cX12_isAllowed : ByteArray := prog_14_method_17_code
def yX12_isAllowed : MethodName := ⟨RX12, "isAllowed", "(I)Z"⟩
abbrev cX12_isFull : ByteArray := prog_14_method_18_code
def yX12_isFull : MethodName := ⟨RX12, "isFull", "(III)Z"⟩
abbrev cX12_nameOf : ByteArray := prog_14_method_19_code
def yX12_nameOf : MethodName := ⟨RX12, "nameOf", "(IJ)I"⟩
abbrev cX12_newName : ByteArray := prog_14_method_20_code
def yX12_newName : MethodName := ⟨RX12, "newName", "()J"⟩
abbrev cX12_oneOf : ByteArray := prog_14_method_21_code
def yX12_oneOf : MethodName := ⟨RX12, "oneOf", "(I)I"⟩
abbrev cX12_isNamed : ByteArray := prog_14_method_22_code
def yX12_isNamed : MethodName := ⟨RX12, "isNamed", "(IJ)V"⟩
abbrev cX12_moodTold : ByteArray := prog_14_method_23_code
def yX12_moodTold : MethodName := ⟨RX12, "moodTold", "(I)V"⟩
abbrev cX12_personTold : ByteArray := prog_14_method_24_code
def yX12_personTold : MethodName := ⟨RX12, "personTold", "(I)V"⟩
abbrev cX12_kneaderTold : ByteArray := prog_14_method_25_code
def yX12_kneaderTold : MethodName := ⟨RX12, "kneaderTold", "(I)V"⟩
abbrev cX12_loafTold : ByteArray := prog_14_method_26_code
def yX12_loafTold : MethodName := ⟨RX12, "loafTold", "(I)V"⟩
abbrev cX12_mealTold : ByteArray := prog_14_method_27_code
def yX12_mealTold : MethodName := ⟨RX12, "mealTold", "(I)V"⟩
abbrev cX12_keepsCodes : ByteArray := prog_14_method_28_code
def yX12_keepsCodes : MethodName := ⟨RX12, "keepsCodes", "(I)V"⟩
abbrev cX12_begins : ByteArray := prog_14_method_29_code
def yX12_begins : MethodName := ⟨RX12, "begins", "(I)V"⟩
abbrev cX12_sumIsTold : ByteArray := prog_14_method_30_code
def yX12_sumIsTold : MethodName := ⟨RX12, "sumIsTold", "(II)V"⟩
abbrev cX12_deedTold : ByteArray := prog_14_method_31_code
def yX12_deedTold : MethodName := ⟨RX12, "deedTold", "(I)V"⟩
abbrev cX12_statementTold : ByteArray := prog_14_method_32_code
def yX12_statementTold : MethodName := ⟨RX12, "statementTold", "()V"⟩
abbrev cX12_town : ByteArray := prog_14_method_33_code
def yX12_town : MethodName := ⟨RX12, "town", "()I"⟩
abbrev cX12_stands : ByteArray := prog_14_method_34_code
def yX12_stands : MethodName := ⟨RX12, "stands", "()V"⟩
abbrev cX12_fault : ByteArray := prog_14_method_35_code
def yX12_fault : MethodName := ⟨RX12, "fault", "(I)I"⟩
abbrev cX12_hourNow : ByteArray := prog_14_method_36_code
def yX12_hourNow : MethodName := ⟨RX12, "hourNow", "()I"⟩
abbrev cX12_moodMany : ByteArray := prog_14_method_37_code
def yX12_moodMany : MethodName := ⟨RX12, "moodMany", "()I"⟩
abbrev cX12_peopleMany : ByteArray := prog_14_method_38_code
def yX12_peopleMany : MethodName := ⟨RX12, "peopleMany", "()I"⟩
abbrev cX12_loafMany : ByteArray := prog_14_method_39_code
def yX12_loafMany : MethodName := ⟨RX12, "loafMany", "()I"⟩
abbrev cX12_deedMany : ByteArray := prog_14_method_40_code
def yX12_deedMany : MethodName := ⟨RX12, "deedMany", "()I"⟩
abbrev cX12_isMood : ByteArray := prog_14_method_41_code
def yX12_isMood : MethodName := ⟨RX12, "isMood", "(I)Z"⟩
abbrev cX12_isPerson : ByteArray := prog_14_method_42_code
def yX12_isPerson : MethodName := ⟨RX12, "isPerson", "(I)Z"⟩
abbrev cX12_isLoaf : ByteArray := prog_14_method_43_code
def yX12_isLoaf : MethodName := ⟨RX12, "isLoaf", "(I)Z"⟩
abbrev cX12_isDeed : ByteArray := prog_14_method_44_code
def yX12_isDeed : MethodName := ⟨RX12, "isDeed", "(I)Z"⟩
abbrev cX12_natureOf : ByteArray := prog_14_method_45_code
def yX12_natureOf : MethodName := ⟨RX12, "natureOf", "(II)I"⟩
abbrev cX12_nowOf : ByteArray := prog_14_method_46_code
def yX12_nowOf : MethodName := ⟨RX12, "nowOf", "(II)I"⟩
abbrev cX12_whoKnead : ByteArray := prog_14_method_47_code
def yX12_whoKnead : MethodName := ⟨RX12, "whoKnead", "(I)I"⟩
abbrev cX12_loafIs : ByteArray := prog_14_method_48_code
def yX12_loafIs : MethodName := ⟨RX12, "loafIs", "(II)I"⟩
abbrev cX12_leavenOf : ByteArray := prog_14_method_49_code
def yX12_leavenOf : MethodName := ⟨RX12, "leavenOf", "(I)I"⟩
abbrev cX12_putsAside : ByteArray := prog_14_method_50_code
def yX12_putsAside : MethodName := ⟨RX12, "putsAside", "()V"⟩
abbrev cX12_takesBack : ByteArray := prog_14_method_51_code
def yX12_takesBack : MethodName := ⟨RX12, "takesBack", "()V"⟩
abbrev cX12_bits : ByteArray := prog_14_method_52_code
def yX12_bits : MethodName := ⟨RX12, "bits", "(I)I"⟩
abbrev cX12_codesTell : ByteArray := prog_14_method_53_code
def yX12_codesTell : MethodName := ⟨RX12, "codesTell", "(I)J"⟩
abbrev cX12_made : ByteArray := prog_14_method_54_code
def yX12_made : MethodName := ⟨RX12, "made", "(IIIII)I"⟩
abbrev cX12_isDone : ByteArray := prog_14_method_55_code
def yX12_isDone : MethodName := ⟨RX12, "isDone", "(II)Z"⟩
abbrev cX12_doneBy : ByteArray := prog_14_method_56_code
def yX12_doneBy : MethodName := ⟨RX12, "doneBy", "(I)I"⟩
abbrev cX12_bakes : ByteArray := prog_14_method_57_code
def yX12_bakes : MethodName := ⟨RX12, "bakes", "(I)V"⟩
abbrev cX12_eats : ByteArray := prog_14_method_58_code
def yX12_eats : MethodName := ⟨RX12, "eats", "(II)V"⟩
abbrev cX12_sleeps : ByteArray := prog_14_method_59_code
def yX12_sleeps : MethodName := ⟨RX12, "sleeps", "(I)V"⟩
abbrev cX12_hourComes : ByteArray := prog_14_method_60_code
def yX12_hourComes : MethodName := ⟨RX12, "hourComes", "()V"⟩
abbrev cX12_hoursCome : ByteArray := prog_14_method_61_code
def yX12_hoursCome : MethodName := ⟨RX12, "hoursCome", "(I)V"⟩
abbrev cX12_deedsNow : ByteArray := prog_14_method_62_code
def yX12_deedsNow : MethodName := ⟨RX12, "deedsNow", "()I"⟩
abbrev cX12_has : ByteArray := prog_14_method_63_code
def yX12_has : MethodName := ⟨RX12, "has", "(I)I"⟩
abbrev cX12_letter : ByteArray := prog_14_method_64_code
def yX12_letter : MethodName := ⟨RX12, "letter", "(III)I"⟩
abbrev cX12_feels : ByteArray := prog_14_method_65_code
def yX12_feels : MethodName := ⟨RX12, "feels", "(III)I"⟩
abbrev cX12_bread : ByteArray := prog_14_method_66_code
def yX12_bread : MethodName := ⟨RX12, "bread", "(II)I"⟩
abbrev cX12_mealsOf : ByteArray := prog_14_method_67_code
def yX12_mealsOf : MethodName := ⟨RX12, "mealsOf", "(I)I"⟩
abbrev cX12_loaf : ByteArray := prog_14_method_68_code
def yX12_loaf : MethodName := ⟨RX12, "loaf", "(II)I"⟩
abbrev cX12_does : ByteArray := prog_14_method_69_code
def yX12_does : MethodName := ⟨RX12, "does", "(II)I"⟩
abbrev cX12_isAhead : ByteArray := prog_14_method_70_code
def yX12_isAhead : MethodName := ⟨RX12, "isAhead", "(I)Z"⟩
abbrev cX12_later : ByteArray := prog_14_method_71_code
def yX12_later : MethodName := ⟨RX12, "later", "(III)I"⟩
abbrev cX12_firstDoer : ByteArray := prog_14_method_72_code
def yX12_firstDoer : MethodName := ⟨RX12, "firstDoer", "()I"⟩
abbrev cX12_first : ByteArray := prog_14_method_73_code
def yX12_first : MethodName := ⟨RX12, "first", "(I)I"⟩
abbrev cX12_often : ByteArray := prog_14_method_74_code
def yX12_often : MethodName := ⟨RX12, "often", "(III)I"⟩
abbrev cX12_areAlike : ByteArray := prog_14_method_75_code
def yX12_areAlike : MethodName := ⟨RX12, "areAlike", "(II)Z"⟩
abbrev cX12_again : ByteArray := prog_14_method_76_code
def yX12_again : MethodName := ⟨RX12, "again", "(I)I"⟩
abbrev cX12_isHands : ByteArray := prog_14_method_77_code
def yX12_isHands : MethodName := ⟨RX12, "isHands", "(I)Z"⟩
abbrev cX12_size : ByteArray := prog_14_method_78_code
def yX12_size : MethodName := ⟨RX12, "size", "(I)I"⟩
abbrev cX12_least : ByteArray := prog_14_method_79_code
def yX12_least : MethodName := ⟨RX12, "least", "(II)I"⟩
abbrev cX12_laterBy : ByteArray := prog_14_method_80_code
def yX12_laterBy : MethodName := ⟨RX12, "laterBy", "(IIIII)I"⟩
abbrev cX12_hands : ByteArray := prog_14_method_81_code
def yX12_hands : MethodName := ⟨RX12, "hands", "(IIIIII)I"⟩
abbrev cX12_blend : ByteArray := prog_14_method_82_code
def yX12_blend : MethodName := ⟨RX12, "blend", "(IIIII)I"⟩
abbrev cX12_left : ByteArray := prog_14_method_83_code
def yX12_left : MethodName := ⟨RX12, "left", "(III)I"⟩
abbrev cX12_farFrom : ByteArray := prog_14_method_84_code
def yX12_farFrom : MethodName := ⟨RX12, "farFrom", "(II)I"⟩
abbrev cX12_votes : ByteArray := prog_14_method_85_code
def yX12_votes : MethodName := ⟨RX12, "votes", "(III)I"⟩
abbrev cX12_keeps : ByteArray := prog_14_method_86_code
def yX12_keeps : MethodName := ⟨RX12, "keeps", "()V"⟩
abbrev cX12_undo : ByteArray := prog_14_method_87_code
def yX12_undo : MethodName := ⟨RX12, "undo", "()Z"⟩
abbrev cX12_refuses : ByteArray := prog_14_method_88_code
def yX12_refuses : MethodName := ⟨RX12, "refuses", "()I"⟩
abbrev cX12_go : ByteArray := prog_14_method_89_code
def yX12_go : MethodName := ⟨RX12, "go", "(I)I"⟩
abbrev cX12_knead : ByteArray := prog_14_method_90_code
def yX12_knead : MethodName := ⟨RX12, "knead", "(II)I"⟩
abbrev cX12_calm : ByteArray := prog_14_method_91_code
def yX12_calm : MethodName := ⟨RX12, "calm", "(III)I"⟩
abbrev cX12_seed : ByteArray := prog_14_method_92_code
def yX12_seed : MethodName := ⟨RX12, "seed", "(I)Z"⟩
abbrev cX12_drawOf : ByteArray := prog_14_method_93_code
def yX12_drawOf : MethodName := ⟨RX12, "drawOf", "(I)I"⟩
abbrev cX12_whim : ByteArray := prog_14_method_94_code
def yX12_whim : MethodName := ⟨RX12, "whim", "()V"⟩
abbrev cX12_days : ByteArray := prog_14_method_95_code
def yX12_days : MethodName := ⟨RX12, "days", "(I)I"⟩
abbrev cX12_see : ByteArray := prog_14_method_96_code
def yX12_see : MethodName := ⟨RX12, "see", "()I"⟩
abbrev cX12_isSeenAt : ByteArray := prog_14_method_97_code
def yX12_isSeenAt : MethodName := ⟨RX12, "isSeenAt", "(I)Z"⟩
abbrev cX12_lastSeen : ByteArray := prog_14_method_98_code
def yX12_lastSeen : MethodName := ⟨RX12, "lastSeen", "()I"⟩
abbrev cX12_isKneader : ByteArray := prog_14_method_99_code
def yX12_isKneader : MethodName := ⟨RX12, "isKneader", "(II)Z"⟩
abbrev cX12_kneaders : ByteArray := prog_14_method_100_code
def yX12_kneaders : MethodName := ⟨RX12, "kneaders", "(II)I"⟩
abbrev cX12_crowd : ByteArray := prog_14_method_101_code
def yX12_crowd : MethodName := ⟨RX12, "crowd", "(II)I"⟩
abbrev cX12_notes : ByteArray := prog_14_method_102_code
def yX12_notes : MethodName := ⟨RX12, "notes", "(III)V"⟩
abbrev cX12_look : ByteArray := prog_14_method_103_code
def yX12_look : MethodName := ⟨RX12, "look", "(III)I"⟩
abbrev cX12_qCode : ByteArray := prog_14_method_104_code
def yX12_qCode : MethodName := ⟨RX12, "qCode", "(I)V"⟩
abbrev cX12_qOpens : ByteArray := prog_14_method_105_code
def yX12_qOpens : MethodName := ⟨RX12, "qOpens", "(II)V"⟩
abbrev cX12_qIsOn : ByteArray := prog_14_method_106_code
def yX12_qIsOn : MethodName := ⟨RX12, "qIsOn", "(I)Z"⟩
abbrev cX12_qDrops : ByteArray := prog_14_method_107_code
def yX12_qDrops : MethodName := ⟨RX12, "qDrops", "()V"⟩
abbrev cX12_qIsBracket : ByteArray := prog_14_method_108_code
def yX12_qIsBracket : MethodName := ⟨RX12, "qIsBracket", "(I)Z"⟩
abbrev cX12_qBracket : ByteArray := prog_14_method_109_code
def yX12_qBracket : MethodName := ⟨RX12, "qBracket", "()I"⟩
abbrev cX12_qDropsToBracket : ByteArray := prog_14_method_110_code
def yX12_qDropsToBracket : MethodName := ⟨RX12, "qDropsToBracket", "()V"⟩
abbrev cX12_qWordHere : ByteArray := prog_14_method_111_code
def yX12_qWordHere : MethodName := ⟨RX12, "qWordHere", "()I"⟩
abbrev cX12_qWordOf : ByteArray := prog_14_method_112_code
def yX12_qWordOf : MethodName := ⟨RX12, "qWordOf", "(II)I"⟩
abbrev cX12_qAsksWord : ByteArray := prog_14_method_113_code
def yX12_qAsksWord : MethodName := ⟨RX12, "qAsksWord", "(I)V"⟩
abbrev cX12_qEndsPart : ByteArray := prog_14_method_114_code
def yX12_qEndsPart : MethodName := ⟨RX12, "qEndsPart", "()V"⟩
abbrev cX12_qPartTold : ByteArray := prog_14_method_115_code
def yX12_qPartTold : MethodName := ⟨RX12, "qPartTold", "()V"⟩
abbrev cX12_qGoesOn : ByteArray := prog_14_method_116_code
def yX12_qGoesOn : MethodName := ⟨RX12, "qGoesOn", "()Z"⟩
abbrev cX12_qSums : ByteArray := prog_14_method_117_code
def yX12_qSums : MethodName := ⟨RX12, "qSums", "()V"⟩
abbrev cX12_qFact : ByteArray := prog_14_method_118_code
def yX12_qFact : MethodName := ⟨RX12, "qFact", "()V"⟩
abbrev cX12_qHasSquare : ByteArray := prog_14_method_119_code
def yX12_qHasSquare : MethodName := ⟨RX12, "qHasSquare", "()Z"⟩
abbrev cX12_qDropsNots : ByteArray := prog_14_method_120_code
def yX12_qDropsNots : MethodName := ⟨RX12, "qDropsNots", "()V"⟩
abbrev cX12_qTest : ByteArray := prog_14_method_121_code
def yX12_qTest : MethodName := ⟨RX12, "qTest", "()V"⟩
abbrev cX12_qGoesOnTest : ByteArray := prog_14_method_122_code
def yX12_qGoesOnTest : MethodName := ⟨RX12, "qGoesOnTest", "()Z"⟩
abbrev cX12_qClip : ByteArray := prog_14_method_123_code
def yX12_qClip : MethodName := ⟨RX12, "qClip", "(J)J"⟩
abbrev cX12_qFloor : ByteArray := prog_14_method_124_code
def yX12_qFloor : MethodName := ⟨RX12, "qFloor", "(JJ)J"⟩
abbrev cX12_qPuts : ByteArray := prog_14_method_125_code
def yX12_qPuts : MethodName := ⟨RX12, "qPuts", "(J)V"⟩
abbrev cX12_qJoins : ByteArray := prog_14_method_126_code
def yX12_qJoins : MethodName := ⟨RX12, "qJoins", "(I)V"⟩
abbrev cX12_qPartOf : ByteArray := prog_14_method_127_code
def yX12_qPartOf : MethodName := ⟨RX12, "qPartOf", "(II)J"⟩
abbrev cX12_qOf : ByteArray := prog_14_method_128_code
def yX12_qOf : MethodName := ⟨RX12, "qOf", "(IJI)J"⟩
abbrev cX12_qTold : ByteArray := prog_14_method_129_code
def yX12_qTold : MethodName := ⟨RX12, "qTold", "(I)J"⟩
abbrev cX12_qKind : ByteArray := prog_14_method_130_code
def yX12_qKind : MethodName := ⟨RX12, "qKind", "()I"⟩
abbrev cX12_qTakes : ByteArray := prog_14_method_131_code
def yX12_qTakes : MethodName := ⟨RX12, "qTakes", "(IJI)V"⟩
abbrev cX12_ask : ByteArray := prog_14_method_132_code
def yX12_ask : MethodName := ⟨RX12, "ask", "(I)J"⟩
abbrev cX12_checked : ByteArray := prog_14_method_133_code
def yX12_checked : MethodName := ⟨RX12, "checked", "([II)I"⟩
abbrev cX12_writes : ByteArray := prog_14_method_134_code
def yX12_writes : MethodName := ⟨RX12, "writes", "(I)V"⟩
abbrev cX12_image : ByteArray := prog_14_method_135_code
def yX12_image : MethodName := ⟨RX12, "image", "()I"⟩
abbrev cX12_octet : ByteArray := prog_14_method_136_code
def yX12_octet : MethodName := ⟨RX12, "octet", "(I)I"⟩
abbrev cX12_loavesFrom : ByteArray := prog_14_method_137_code
def yX12_loavesFrom : MethodName := ⟨RX12, "loavesFrom", "()I"⟩
abbrev cX12_isTold : ByteArray := prog_14_method_138_code
def yX12_isTold : MethodName := ⟨RX12, "isTold", "(I)Z"⟩
abbrev cX12_on : ByteArray := prog_14_method_139_code
def yX12_on : MethodName := ⟨RX12, "on", "()Z"⟩
abbrev cX12_status : ByteArray := prog_14_method_140_code
def yX12_status : MethodName := ⟨RX12, "status", "(I)I"⟩
def RJx145de : String := "java/io/Serializable"
def TJx145de : u_T := fun k => match k with
  | _ => ("", "", "", false)
def tyJx145de : Nat → FieldType := fun k => match k with
  | _ => .int
abbrev wsJx145de0 : List Cond := u_ws RJx145de TJx145de 0
theorem nmJx145de : ∀ a, a < 0 → ∀ b, b < 0 → a ≠ b → (TJx145de a).2.1 ≠ (TJx145de b).2.1 := by decide +kernel
theorem tyJx145de_ok : ∀ k, k < 0 → parseFieldDescriptor (TJx145de k).2.2.1 = some (tyJx145de k) := by decide +kernel
def RJx9f9b0 : String := "java/lang/CharSequence"
def TJx9f9b0 : u_T := fun k => match k with
  | _ => ("", "", "", false)
def tyJx9f9b0 : Nat → FieldType := fun k => match k with
  | _ => .int
abbrev wsJx9f9b00 : List Cond := u_ws RJx9f9b0 TJx9f9b0 0
theorem nmJx9f9b0 : ∀ a, a < 0 → ∀ b, b < 0 → a ≠ b → (TJx9f9b0 a).2.1 ≠ (TJx9f9b0 b).2.1 := by decide +kernel
theorem tyJx9f9b0_ok : ∀ k, k < 0 → parseFieldDescriptor (TJx9f9b0 k).2.2.1 = some (tyJx9f9b0 k) := by decide +kernel
def RJxb160c : String := "java/lang/Comparable"
def TJxb160c : u_T := fun k => match k with
  | _ => ("", "", "", false)
def tyJxb160c : Nat → FieldType := fun k => match k with
  | _ => .int
abbrev wsJxb160c0 : List Cond := u_ws RJxb160c TJxb160c 0
theorem nmJxb160c : ∀ a, a < 0 → ∀ b, b < 0 → a ≠ b → (TJxb160c a).2.1 ≠ (TJxb160c b).2.1 := by decide +kernel
theorem tyJxb160c_ok : ∀ k, k < 0 → parseFieldDescriptor (TJxb160c k).2.2.1 = some (tyJxb160c k) := by decide +kernel
def RJ6 : String := "java/lang/Integer"
def TJ6 : u_T := fun k => match k with
  | _ => ("", "", "", false)
def tyJ6 : Nat → FieldType := fun k => match k with
  | _ => .int
abbrev wsJ60 : List Cond := u_ws RJ6 TJ6 0
theorem nmJ6 : ∀ a, a < 0 → ∀ b, b < 0 → a ≠ b → (TJ6 a).2.1 ≠ (TJ6 b).2.1 := by decide +kernel
theorem tyJ6_ok : ∀ k, k < 0 → parseFieldDescriptor (TJ6 k).2.2.1 = some (tyJ6 k) := by decide +kernel
abbrev cJ6_bitCount_0f7a4 : ByteArray := prog_15_method_49_code
def yJ6_bitCount_0f7a4 : MethodName := ⟨RJ6, "bitCount", "(I)I"⟩
def RJ9 : String := "java/lang/Math"
def TJ9 : u_T := fun k => match k with
  | _ => ("", "", "", false)
def tyJ9 : Nat → FieldType := fun k => match k with
  | _ => .int
abbrev wsJ90 : List Cond := u_ws RJ9 TJ9 0
theorem nmJ9 : ∀ a, a < 0 → ∀ b, b < 0 → a ≠ b → (TJ9 a).2.1 ≠ (TJ9 b).2.1 := by decide +kernel
theorem tyJ9_ok : ∀ k, k < 0 → parseFieldDescriptor (TJ9 k).2.2.1 = some (tyJ9 k) := by decide +kernel
abbrev cJ9_floorDiv_7cf53 : ByteArray := prog_16_method_47_code
def yJ9_floorDiv_7cf53 : MethodName := ⟨RJ9, "floorDiv", "(II)I"⟩
abbrev cJ9_abs_0f7a4 : ByteArray := prog_16_method_59_code
def yJ9_abs_0f7a4 : MethodName := ⟨RJ9, "abs", "(I)I"⟩
abbrev cJ9_max_7cf53 : ByteArray := prog_16_method_65_code
def yJ9_max_7cf53 : MethodName := ⟨RJ9, "max", "(II)I"⟩
abbrev cJ9_max_f86c9 : ByteArray := prog_16_method_66_code
def yJ9_max_f86c9 : MethodName := ⟨RJ9, "max", "(JJ)J"⟩
abbrev cJ9_min_7cf53 : ByteArray := prog_16_method_69_code
def yJ9_min_7cf53 : MethodName := ⟨RJ9, "min", "(II)I"⟩
abbrev cJ9_min_f86c9 : ByteArray := prog_16_method_70_code
def yJ9_min_f86c9 : MethodName := ⟨RJ9, "min", "(JJ)J"⟩
def RJ0 : String := "java/lang/String"
def TJ0 : u_T := fun k => match k with
  | _ => ("", "", "", false)
def tyJ0 : Nat → FieldType := fun k => match k with
  | _ => .int
abbrev wsJ00 : List Cond := u_ws RJ0 TJ0 0
theorem nmJ0 : ∀ a, a < 0 → ∀ b, b < 0 → a ≠ b → (TJ0 a).2.1 ≠ (TJ0 b).2.1 := by decide +kernel
theorem tyJ0_ok : ∀ k, k < 0 → parseFieldDescriptor (TJ0 k).2.2.1 = some (tyJ0 k) := by decide +kernel
abbrev cJ0_length_8abf5 : ByteArray := prog_17_method_54_code
def yJ0_length_8abf5 : MethodName := ⟨RJ0, "length", "()I"⟩
abbrev cJ0_charAt_5068e : ByteArray := prog_17_method_56_code
def yJ0_charAt_5068e : MethodName := ⟨RJ0, "charAt", "(I)C"⟩
abbrev cJ0_coder_7d493 : ByteArray := prog_17_method_152_code
def yJ0_coder_7d493 : MethodName := ⟨RJ0, "coder", "()B"⟩
abbrev cJ0_isLatin1_aae02 : ByteArray := prog_17_method_154_code
def yJ0_isLatin1_aae02 : MethodName := ⟨RJ0, "isLatin1", "()Z"⟩
abbrev cJ0_checkIndex_df160 : ByteArray := prog_17_method_155_code
def yJ0_checkIndex_df160 : MethodName := ⟨RJ0, "checkIndex", "(II)V"⟩
def RJ1 : String := "java/lang/StringLatin1"
def TJ1 : u_T := fun k => match k with
  | _ => ("", "", "", false)
def tyJ1 : Nat → FieldType := fun k => match k with
  | _ => .int
abbrev wsJ10 : List Cond := u_ws RJ1 TJ1 0
theorem nmJ1 : ∀ a, a < 0 → ∀ b, b < 0 → a ≠ b → (TJ1 a).2.1 ≠ (TJ1 b).2.1 := by decide +kernel
theorem tyJ1_ok : ∀ k, k < 0 → parseFieldDescriptor (TJ1 k).2.2.1 = some (tyJ1 k) := by decide +kernel
abbrev cJ1_charAt_3b067 : ByteArray := prog_18_method_2_code
def yJ1_charAt_3b067 : MethodName := ⟨RJ1, "charAt", "([BI)C"⟩
def RJ2 : String := "java/lang/StringUTF16"
def TJ2 : u_T := fun k => match k with
  | _ => ("", "", "", false)
def tyJ2 : Nat → FieldType := fun k => match k with
  | _ => .int
abbrev wsJ20 : List Cond := u_ws RJ2 TJ2 0
theorem nmJ2 : ∀ a, a < 0 → ∀ b, b < 0 → a ≠ b → (TJ2 a).2.1 ≠ (TJ2 b).2.1 := by decide +kernel
theorem tyJ2_ok : ∀ k, k < 0 → parseFieldDescriptor (TJ2 k).2.2.1 = some (tyJ2 k) := by decide +kernel
abbrev cJ2_getChar_3b067 : ByteArray := prog_19_method_5_code
def yJ2_getChar_3b067 : MethodName := ⟨RJ2, "getChar", "([BI)C"⟩
abbrev cJ2_length_9d52b : ByteArray := prog_19_method_6_code
def yJ2_length_9d52b : MethodName := ⟨RJ2, "length", "([B)I"⟩
abbrev cJ2_charAt_3b067 : ByteArray := prog_19_method_83_code
def yJ2_charAt_3b067 : MethodName := ⟨RJ2, "charAt", "([BI)C"⟩
abbrev cJ2_checkIndex_2214a : ByteArray := prog_19_method_91_code
def yJ2_checkIndex_2214a : MethodName := ⟨RJ2, "checkIndex", "(I[B)V"⟩
def RJ10 : String := "java/lang/System"
def TJ10 : u_T := fun k => match k with
  | _ => ("", "", "", false)
def tyJ10 : Nat → FieldType := fun k => match k with
  | _ => .int
abbrev wsJ100 : List Cond := u_ws RJ10 TJ10 0
theorem nmJ10 : ∀ a, a < 0 → ∀ b, b < 0 → a ≠ b → (TJ10 a).2.1 ≠ (TJ10 b).2.1 := by decide +kernel
theorem tyJ10_ok : ∀ k, k < 0 → parseFieldDescriptor (TJ10 k).2.2.1 = some (tyJ10 k) := by decide +kernel
def RJxfd54e : String := "java/lang/constant/Constable"
def TJxfd54e : u_T := fun k => match k with
  | _ => ("", "", "", false)
def tyJxfd54e : Nat → FieldType := fun k => match k with
  | _ => .int
abbrev wsJxfd54e0 : List Cond := u_ws RJxfd54e TJxfd54e 0
theorem nmJxfd54e : ∀ a, a < 0 → ∀ b, b < 0 → a ≠ b → (TJxfd54e a).2.1 ≠ (TJxfd54e b).2.1 := by decide +kernel
theorem tyJxfd54e_ok : ∀ k, k < 0 → parseFieldDescriptor (TJxfd54e k).2.2.1 = some (tyJxfd54e k) := by decide +kernel
def RJx3cf43 : String := "java/lang/constant/ConstantDesc"
def TJx3cf43 : u_T := fun k => match k with
  | _ => ("", "", "", false)
def tyJx3cf43 : Nat → FieldType := fun k => match k with
  | _ => .int
abbrev wsJx3cf430 : List Cond := u_ws RJx3cf43 TJx3cf43 0
theorem nmJx3cf43 : ∀ a, a < 0 → ∀ b, b < 0 → a ≠ b → (TJx3cf43 a).2.1 ≠ (TJx3cf43 b).2.1 := by decide +kernel
theorem tyJx3cf43_ok : ∀ k, k < 0 → parseFieldDescriptor (TJx3cf43 k).2.2.1 = some (tyJx3cf43 k) := by decide +kernel
def RJ7 : String := "java/util/Arrays"
def TJ7 : u_T := fun k => match k with
  | _ => ("", "", "", false)
def tyJ7 : Nat → FieldType := fun k => match k with
  | _ => .int
abbrev wsJ70 : List Cond := u_ws RJ7 TJ7 0
theorem nmJ7 : ∀ a, a < 0 → ∀ b, b < 0 → a ≠ b → (TJ7 a).2.1 ≠ (TJ7 b).2.1 := by decide +kernel
theorem tyJ7_ok : ∀ k, k < 0 → parseFieldDescriptor (TJ7 k).2.2.1 = some (tyJ7 k) := by decide +kernel
abbrev cJ7_fill_53178 : ByteArray := prog_21_method_103_code
def yJ7_fill_53178 : MethodName := ⟨RJ7, "fill", "([II)V"⟩
def RJ3 : String := "jdk/internal/util/Preconditions"
def TJ3 : u_T := fun k => match k with
  | _ => ("", "", "", false)
def tyJ3 : Nat → FieldType := fun k => match k with
  | _ => .int
abbrev wsJ30 : List Cond := u_ws RJ3 TJ3 0
theorem nmJ3 : ∀ a, a < 0 → ∀ b, b < 0 → a ≠ b → (TJ3 a).2.1 ≠ (TJ3 b).2.1 := by decide +kernel
theorem tyJ3_ok : ∀ k, k < 0 → parseFieldDescriptor (TJ3 k).2.2.1 = some (tyJ3 k) := by decide +kernel
abbrev cJ3_checkIndex_8e157 : ByteArray := prog_22_method_11_code
def yJ3_checkIndex_8e157 : MethodName := ⟨RJ3, "checkIndex", "(IILjava/util/function/BiFunction;)I"⟩
def RL : String := "MoodBreadLaw"
abbrev cL_law : ByteArray := code
def yL_law : MethodName := ⟨RL, "law", "([I)Z"⟩
abbrev vwCl : List vw_C := [(RX0, TX0, 2), (RX1, TX1, 2), (RX2, TX2, 8), (RX3, TX3, 3), (RX4, TX4, 2), (RX5, TX5, 1), (RX6, TX6, 9), (RX7, TX7, 5), (RX8, TX8, 5), (RX9, TX9, 16), (RX10, TX10, 2), (RX11, TX11, 17), (RX12, TX12, 103)]
