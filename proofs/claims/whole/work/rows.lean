section
-- ===== PART A: goes FIRST, ahead of the names: the tables' words, and 'selects' of the private methods out of them =====
/-- a private method of a class that the tables say can be made, by its rows of tables_1 -/
def lw_okq (q : MethodName × Nat) : Prop := (q.1.cls ≠ "java/lang/invoke/MethodHandle" ∧ q.1.cls ≠ "java/lang/invoke/VarHandle") ∧ Cond.instantiable q.1.cls q.2 ∈ tables_1 ∧ Cond.privateMethod q.1 ∈ tables_1 ∧ Cond.instanceMethod q.1 ∈ tables_1
theorem lw_p0 : lw_okq (⟨"DifferRings$Sheet", "spans", "(II)Z"⟩, 3) := ⟨⟨by decide +kernel, by decide +kernel⟩, List.mem_of_getElem? (i := 24) (by decide +kernel), List.mem_of_getElem? (i := 249) (by decide +kernel), List.mem_of_getElem? (i := 250) (by decide +kernel)⟩
theorem lw_p1 : lw_okq (⟨"DifferRings", "answerOfFault", "()I"⟩, 10) := ⟨⟨by decide +kernel, by decide +kernel⟩, List.mem_of_getElem? (i := 15) (by decide +kernel), List.mem_of_getElem? (i := 253) (by decide +kernel), List.mem_of_getElem? (i := 254) (by decide +kernel)⟩
theorem lw_p2 : lw_okq (⟨"DifferRings$Ring", "howFar", "(II)I"⟩, 5) := ⟨⟨by decide +kernel, by decide +kernel⟩, List.mem_of_getElem? (i := 42) (by decide +kernel), List.mem_of_getElem? (i := 296) (by decide +kernel), List.mem_of_getElem? (i := 297) (by decide +kernel)⟩
theorem lw_p3 : lw_okq (⟨"DifferRings$AllRows", "makeRoom", "()V"⟩, 14) := ⟨⟨by decide +kernel, by decide +kernel⟩, List.mem_of_getElem? (i := 76) (by decide +kernel), List.mem_of_getElem? (i := 345) (by decide +kernel), List.mem_of_getElem? (i := 346) (by decide +kernel)⟩
theorem lw_p4 : lw_okq (⟨"DifferRings$AllRows", "findNext", "()V"⟩, 14) := ⟨⟨by decide +kernel, by decide +kernel⟩, List.mem_of_getElem? (i := 76) (by decide +kernel), List.mem_of_getElem? (i := 349) (by decide +kernel), List.mem_of_getElem? (i := 350) (by decide +kernel)⟩
theorem lw_p5 : lw_okq (⟨"DifferRings$AllRows", "orderThoseThatDoNotComeBack", "()V"⟩, 14) := ⟨⟨by decide +kernel, by decide +kernel⟩, List.mem_of_getElem? (i := 76) (by decide +kernel), List.mem_of_getElem? (i := 369) (by decide +kernel), List.mem_of_getElem? (i := 370) (by decide +kernel)⟩
theorem lw_p6 : lw_okq (⟨"DifferRings$AllRows", "findRounds", "()V"⟩, 14) := ⟨⟨by decide +kernel, by decide +kernel⟩, List.mem_of_getElem? (i := 76) (by decide +kernel), List.mem_of_getElem? (i := 373) (by decide +kernel), List.mem_of_getElem? (i := 374) (by decide +kernel)⟩
theorem lw_p7 : lw_okq (⟨"DifferRings$AllRows", "markRound", "(I)V"⟩, 14) := ⟨⟨by decide +kernel, by decide +kernel⟩, List.mem_of_getElem? (i := 76) (by decide +kernel), List.mem_of_getElem? (i := 377) (by decide +kernel), List.mem_of_getElem? (i := 378) (by decide +kernel)⟩
theorem lw_p8 : lw_okq (⟨"DifferRings$AllRows", "findTails", "()V"⟩, 14) := ⟨⟨by decide +kernel, by decide +kernel⟩, List.mem_of_getElem? (i := 76) (by decide +kernel), List.mem_of_getElem? (i := 381) (by decide +kernel), List.mem_of_getElem? (i := 382) (by decide +kernel)⟩
theorem lw_p9 : lw_okq (⟨"DifferRings$AllRows", "sumUp", "()V"⟩, 14) := ⟨⟨by decide +kernel, by decide +kernel⟩, List.mem_of_getElem? (i := 76) (by decide +kernel), List.mem_of_getElem? (i := 385) (by decide +kernel), List.mem_of_getElem? (i := 386) (by decide +kernel)⟩
theorem lw_p10 : lw_okq (⟨"DifferRings$AllRows", "isRow", "(I)Z"⟩, 14) := ⟨⟨by decide +kernel, by decide +kernel⟩, List.mem_of_getElem? (i := 76) (by decide +kernel), List.mem_of_getElem? (i := 393) (by decide +kernel), List.mem_of_getElem? (i := 394) (by decide +kernel)⟩
theorem lw_p11 : lw_okq (⟨"DifferRings$Day", "canDo", "(LDifferRings$Ring;II)Z"⟩, 3) := ⟨⟨by decide +kernel, by decide +kernel⟩, List.mem_of_getElem? (i := 177) (by decide +kernel), List.mem_of_getElem? (i := 444) (by decide +kernel), List.mem_of_getElem? (i := 445) (by decide +kernel)⟩
theorem lw_p12 : lw_okq (⟨"DifferRings", "ofDay", "(I)I"⟩, 10) := ⟨⟨by decide +kernel, by decide +kernel⟩, List.mem_of_getElem? (i := 15) (by decide +kernel), List.mem_of_getElem? (i := 456) (by decide +kernel), List.mem_of_getElem? (i := 457) (by decide +kernel)⟩
theorem lw_p13 : lw_okq (⟨"DifferRings$AllRows", "unlikePlaces", "(II)I"⟩, 14) := ⟨⟨by decide +kernel, by decide +kernel⟩, List.mem_of_getElem? (i := 76) (by decide +kernel), List.mem_of_getElem? (i := 513) (by decide +kernel), List.mem_of_getElem? (i := 514) (by decide +kernel)⟩
theorem lw_p14 : lw_okq (⟨"DifferRings$Readings", "lastTime", "()I"⟩, 4) := ⟨⟨by decide +kernel, by decide +kernel⟩, List.mem_of_getElem? (i := 157) (by decide +kernel), List.mem_of_getElem? (i := 547) (by decide +kernel), List.mem_of_getElem? (i := 548) (by decide +kernel)⟩
theorem lw_p15 : lw_okq (⟨"DifferRings$Readings", "areSoAt", "(ILDifferRings$Ring;)Z"⟩, 4) := ⟨⟨by decide +kernel, by decide +kernel⟩, List.mem_of_getElem? (i := 157) (by decide +kernel), List.mem_of_getElem? (i := 554) (by decide +kernel), List.mem_of_getElem? (i := 555) (by decide +kernel)⟩
def lw_privs_1 : List (MethodName × Nat) := [(⟨"DifferRings$Sheet", "spans", "(II)Z"⟩, 3), (⟨"DifferRings", "answerOfFault", "()I"⟩, 10), (⟨"DifferRings$Ring", "howFar", "(II)I"⟩, 5), (⟨"DifferRings$AllRows", "makeRoom", "()V"⟩, 14), (⟨"DifferRings$AllRows", "findNext", "()V"⟩, 14), (⟨"DifferRings$AllRows", "orderThoseThatDoNotComeBack", "()V"⟩, 14), (⟨"DifferRings$AllRows", "findRounds", "()V"⟩, 14), (⟨"DifferRings$AllRows", "markRound", "(I)V"⟩, 14), (⟨"DifferRings$AllRows", "findTails", "()V"⟩, 14), (⟨"DifferRings$AllRows", "sumUp", "()V"⟩, 14), (⟨"DifferRings$AllRows", "isRow", "(I)Z"⟩, 14), (⟨"DifferRings$Day", "canDo", "(LDifferRings$Ring;II)Z"⟩, 3), (⟨"DifferRings", "ofDay", "(I)I"⟩, 10), (⟨"DifferRings$AllRows", "unlikePlaces", "(II)I"⟩, 14), (⟨"DifferRings$Readings", "lastTime", "()I"⟩, 4), (⟨"DifferRings$Readings", "areSoAt", "(ILDifferRings$Ring;)Z"⟩, 4)]
theorem lw_r1 : ∀ q ∈ lw_privs_1, lw_okq q := List.forall_mem_cons.mpr ⟨lw_p0, List.forall_mem_cons.mpr ⟨lw_p1, List.forall_mem_cons.mpr ⟨lw_p2, List.forall_mem_cons.mpr ⟨lw_p3, List.forall_mem_cons.mpr ⟨lw_p4, List.forall_mem_cons.mpr ⟨lw_p5, List.forall_mem_cons.mpr ⟨lw_p6, List.forall_mem_cons.mpr ⟨lw_p7, List.forall_mem_cons.mpr ⟨lw_p8, List.forall_mem_cons.mpr ⟨lw_p9, List.forall_mem_cons.mpr ⟨lw_p10, List.forall_mem_cons.mpr ⟨lw_p11, List.forall_mem_cons.mpr ⟨lw_p12, List.forall_mem_cons.mpr ⟨lw_p13, List.forall_mem_cons.mpr ⟨lw_p14, List.forall_mem_cons.mpr ⟨lw_p15, fun _ h => absurd h List.not_mem_nil⟩⟩⟩⟩⟩⟩⟩⟩⟩⟩⟩⟩⟩⟩⟩⟩
theorem lw_p16 : lw_okq (⟨"DifferRings$Spread", "begin", "(LDifferRings$AllRows;)V"⟩, 5) := ⟨⟨by decide +kernel, by decide +kernel⟩, List.mem_of_getElem? (i := 135) (by decide +kernel), List.mem_of_getElem? (i := 572) (by decide +kernel), List.mem_of_getElem? (i := 573) (by decide +kernel)⟩
theorem lw_p17 : lw_okq (⟨"DifferRings$Spread", "stepAll", "(LDifferRings$AllRows;)V"⟩, 5) := ⟨⟨by decide +kernel, by decide +kernel⟩, List.mem_of_getElem? (i := 135) (by decide +kernel), List.mem_of_getElem? (i := 576) (by decide +kernel), List.mem_of_getElem? (i := 577) (by decide +kernel)⟩
theorem lw_p18 : lw_okq (⟨"DifferRings$Sheet", "cut", "(I)I"⟩, 3) := ⟨⟨by decide +kernel, by decide +kernel⟩, List.mem_of_getElem? (i := 24) (by decide +kernel), List.mem_of_getElem? (i := 616) (by decide +kernel), List.mem_of_getElem? (i := 617) (by decide +kernel)⟩
theorem lw_p19 : lw_okq (⟨"DifferRings", "tellPlain", "(I)I"⟩, 10) := ⟨⟨by decide +kernel, by decide +kernel⟩, List.mem_of_getElem? (i := 15) (by decide +kernel), List.mem_of_getElem? (i := 638) (by decide +kernel), List.mem_of_getElem? (i := 639) (by decide +kernel)⟩
theorem lw_p20 : lw_okq (⟨"DifferRings", "leave", "(I)V"⟩, 10) := ⟨⟨by decide +kernel, by decide +kernel⟩, List.mem_of_getElem? (i := 15) (by decide +kernel), List.mem_of_getElem? (i := 642) (by decide +kernel), List.mem_of_getElem? (i := 643) (by decide +kernel)⟩
theorem lw_p21 : lw_okq (⟨"DifferRings", "tellFar", "(I)I"⟩, 10) := ⟨⟨by decide +kernel, by decide +kernel⟩, List.mem_of_getElem? (i := 15) (by decide +kernel), List.mem_of_getElem? (i := 646) (by decide +kernel), List.mem_of_getElem? (i := 647) (by decide +kernel)⟩
theorem lw_p22 : lw_okq (⟨"DifferRings", "tellMixed", "(I)I"⟩, 10) := ⟨⟨by decide +kernel, by decide +kernel⟩, List.mem_of_getElem? (i := 15) (by decide +kernel), List.mem_of_getElem? (i := 650) (by decide +kernel), List.mem_of_getElem? (i := 651) (by decide +kernel)⟩
theorem lw_p23 : lw_okq (⟨"DifferRingsModel", "refused", "(I)I"⟩, 32) := ⟨⟨by decide +kernel, by decide +kernel⟩, List.mem_of_getElem? (i := 674) (by decide +kernel), List.mem_of_getElem? (i := 788) (by decide +kernel), List.mem_of_getElem? (i := 789) (by decide +kernel)⟩
theorem lw_p24 : lw_okq (⟨"DifferRingsModel", "cellsBarred", "(IIIJ)I"⟩, 32) := ⟨⟨by decide +kernel, by decide +kernel⟩, List.mem_of_getElem? (i := 674) (by decide +kernel), List.mem_of_getElem? (i := 793) (by decide +kernel), List.mem_of_getElem? (i := 794) (by decide +kernel)⟩
theorem lw_p25 : lw_okq (⟨"DifferRingsModel", "failed", "(I)I"⟩, 32) := ⟨⟨by decide +kernel, by decide +kernel⟩, List.mem_of_getElem? (i := 674) (by decide +kernel), List.mem_of_getElem? (i := 797) (by decide +kernel), List.mem_of_getElem? (i := 798) (by decide +kernel)⟩
theorem lw_p26 : lw_okq (⟨"DifferRingsModel", "readsRing", "(II)Z"⟩, 32) := ⟨⟨by decide +kernel, by decide +kernel⟩, List.mem_of_getElem? (i := 674) (by decide +kernel), List.mem_of_getElem? (i := 804) (by decide +kernel), List.mem_of_getElem? (i := 805) (by decide +kernel)⟩
theorem lw_p27 : lw_okq (⟨"DifferRingsModel", "codeAt", "(II)I"⟩, 32) := ⟨⟨by decide +kernel, by decide +kernel⟩, List.mem_of_getElem? (i := 674) (by decide +kernel), List.mem_of_getElem? (i := 808) (by decide +kernel), List.mem_of_getElem? (i := 809) (by decide +kernel)⟩
theorem lw_p28 : lw_okq (⟨"DifferRingsModel", "readsPlace", "(II)Z"⟩, 32) := ⟨⟨by decide +kernel, by decide +kernel⟩, List.mem_of_getElem? (i := 674) (by decide +kernel), List.mem_of_getElem? (i := 813) (by decide +kernel), List.mem_of_getElem? (i := 814) (by decide +kernel)⟩
theorem lw_p29 : lw_okq (⟨"DifferRingsModel", "noPlace", "(I)Z"⟩, 32) := ⟨⟨by decide +kernel, by decide +kernel⟩, List.mem_of_getElem? (i := 674) (by decide +kernel), List.mem_of_getElem? (i := 821) (by decide +kernel), List.mem_of_getElem? (i := 822) (by decide +kernel)⟩
theorem lw_p30 : lw_okq (⟨"DifferRingsModel", "takesNow", "()V"⟩, 32) := ⟨⟨by decide +kernel, by decide +kernel⟩, List.mem_of_getElem? (i := 674) (by decide +kernel), List.mem_of_getElem? (i := 825) (by decide +kernel), List.mem_of_getElem? (i := 826) (by decide +kernel)⟩
theorem lw_p31 : lw_okq (⟨"DifferRingsModel", "becomes", "(I)I"⟩, 32) := ⟨⟨by decide +kernel, by decide +kernel⟩, List.mem_of_getElem? (i := 674) (by decide +kernel), List.mem_of_getElem? (i := 829) (by decide +kernel), List.mem_of_getElem? (i := 830) (by decide +kernel)⟩
def lw_privs_2 : List (MethodName × Nat) := [(⟨"DifferRings$Spread", "begin", "(LDifferRings$AllRows;)V"⟩, 5), (⟨"DifferRings$Spread", "stepAll", "(LDifferRings$AllRows;)V"⟩, 5), (⟨"DifferRings$Sheet", "cut", "(I)I"⟩, 3), (⟨"DifferRings", "tellPlain", "(I)I"⟩, 10), (⟨"DifferRings", "leave", "(I)V"⟩, 10), (⟨"DifferRings", "tellFar", "(I)I"⟩, 10), (⟨"DifferRings", "tellMixed", "(I)I"⟩, 10), (⟨"DifferRingsModel", "refused", "(I)I"⟩, 32), (⟨"DifferRingsModel", "cellsBarred", "(IIIJ)I"⟩, 32), (⟨"DifferRingsModel", "failed", "(I)I"⟩, 32), (⟨"DifferRingsModel", "readsRing", "(II)Z"⟩, 32), (⟨"DifferRingsModel", "codeAt", "(II)I"⟩, 32), (⟨"DifferRingsModel", "readsPlace", "(II)Z"⟩, 32), (⟨"DifferRingsModel", "noPlace", "(I)Z"⟩, 32), (⟨"DifferRingsModel", "takesNow", "()V"⟩, 32), (⟨"DifferRingsModel", "becomes", "(I)I"⟩, 32)]
theorem lw_r2 : ∀ q ∈ lw_privs_2, lw_okq q := List.forall_mem_cons.mpr ⟨lw_p16, List.forall_mem_cons.mpr ⟨lw_p17, List.forall_mem_cons.mpr ⟨lw_p18, List.forall_mem_cons.mpr ⟨lw_p19, List.forall_mem_cons.mpr ⟨lw_p20, List.forall_mem_cons.mpr ⟨lw_p21, List.forall_mem_cons.mpr ⟨lw_p22, List.forall_mem_cons.mpr ⟨lw_p23, List.forall_mem_cons.mpr ⟨lw_p24, List.forall_mem_cons.mpr ⟨lw_p25, List.forall_mem_cons.mpr ⟨lw_p26, List.forall_mem_cons.mpr ⟨lw_p27, List.forall_mem_cons.mpr ⟨lw_p28, List.forall_mem_cons.mpr ⟨lw_p29, List.forall_mem_cons.mpr ⟨lw_p30, List.forall_mem_cons.mpr ⟨lw_p31, fun _ h => absurd h List.not_mem_nil⟩⟩⟩⟩⟩⟩⟩⟩⟩⟩⟩⟩⟩⟩⟩⟩
theorem lw_p32 : lw_okq (⟨"DifferRingsModel", "isNumber", "(I)Z"⟩, 32) := ⟨⟨by decide +kernel, by decide +kernel⟩, List.mem_of_getElem? (i := 674) (by decide +kernel), List.mem_of_getElem? (i := 840) (by decide +kernel), List.mem_of_getElem? (i := 841) (by decide +kernel)⟩
theorem lw_p33 : lw_okq (⟨"DifferRingsModel", "doesSteps", "(I)V"⟩, 32) := ⟨⟨by decide +kernel, by decide +kernel⟩, List.mem_of_getElem? (i := 674) (by decide +kernel), List.mem_of_getElem? (i := 849) (by decide +kernel), List.mem_of_getElem? (i := 850) (by decide +kernel)⟩
theorem lw_p34 : lw_okq (⟨"DifferRingsModel", "stepsOnce", "()V"⟩, 32) := ⟨⟨by decide +kernel, by decide +kernel⟩, List.mem_of_getElem? (i := 674) (by decide +kernel), List.mem_of_getElem? (i := 853) (by decide +kernel), List.mem_of_getElem? (i := 854) (by decide +kernel)⟩
theorem lw_p35 : lw_okq (⟨"DifferRingsModel", "zeros", "()I"⟩, 32) := ⟨⟨by decide +kernel, by decide +kernel⟩, List.mem_of_getElem? (i := 674) (by decide +kernel), List.mem_of_getElem? (i := 857) (by decide +kernel), List.mem_of_getElem? (i := 858) (by decide +kernel)⟩
theorem lw_p36 : lw_okq (⟨"DifferRingsModel", "rowNow", "()I"⟩, 32) := ⟨⟨by decide +kernel, by decide +kernel⟩, List.mem_of_getElem? (i := 674) (by decide +kernel), List.mem_of_getElem? (i := 866) (by decide +kernel), List.mem_of_getElem? (i := 867) (by decide +kernel)⟩
theorem lw_p37 : lw_okq (⟨"DifferRingsModel", "rowAt", "()I"⟩, 32) := ⟨⟨by decide +kernel, by decide +kernel⟩, List.mem_of_getElem? (i := 674) (by decide +kernel), List.mem_of_getElem? (i := 870) (by decide +kernel), List.mem_of_getElem? (i := 871) (by decide +kernel)⟩
theorem lw_p38 : lw_okq (⟨"DifferRingsModel", "tables", "()V"⟩, 32) := ⟨⟨by decide +kernel, by decide +kernel⟩, List.mem_of_getElem? (i := 674) (by decide +kernel), List.mem_of_getElem? (i := 874) (by decide +kernel), List.mem_of_getElem? (i := 875) (by decide +kernel)⟩
theorem lw_p39 : lw_okq (⟨"DifferRingsModel", "allRows", "()I"⟩, 32) := ⟨⟨by decide +kernel, by decide +kernel⟩, List.mem_of_getElem? (i := 674) (by decide +kernel), List.mem_of_getElem? (i := 878) (by decide +kernel), List.mem_of_getElem? (i := 879) (by decide +kernel)⟩
theorem lw_p40 : lw_okq (⟨"DifferRingsModel", "takesRow", "(I)V"⟩, 32) := ⟨⟨by decide +kernel, by decide +kernel⟩, List.mem_of_getElem? (i := 674) (by decide +kernel), List.mem_of_getElem? (i := 882) (by decide +kernel), List.mem_of_getElem? (i := 883) (by decide +kernel)⟩
theorem lw_p41 : lw_okq (⟨"DifferRingsModel", "takesAway", "(I)V"⟩, 32) := ⟨⟨by decide +kernel, by decide +kernel⟩, List.mem_of_getElem? (i := 674) (by decide +kernel), List.mem_of_getElem? (i := 886) (by decide +kernel), List.mem_of_getElem? (i := 887) (by decide +kernel)⟩
theorem lw_p42 : lw_okq (⟨"DifferRingsModel", "roundOf", "(I)I"⟩, 32) := ⟨⟨by decide +kernel, by decide +kernel⟩, List.mem_of_getElem? (i := 674) (by decide +kernel), List.mem_of_getElem? (i := 890) (by decide +kernel), List.mem_of_getElem? (i := 891) (by decide +kernel)⟩
theorem lw_p43 : lw_okq (⟨"DifferRingsModel", "behind", "(IJ)I"⟩, 32) := ⟨⟨by decide +kernel, by decide +kernel⟩, List.mem_of_getElem? (i := 674) (by decide +kernel), List.mem_of_getElem? (i := 894) (by decide +kernel), List.mem_of_getElem? (i := 895) (by decide +kernel)⟩
theorem lw_p44 : lw_okq (⟨"DifferRingsModel", "roundFrom", "(I)I"⟩, 32) := ⟨⟨by decide +kernel, by decide +kernel⟩, List.mem_of_getElem? (i := 674) (by decide +kernel), List.mem_of_getElem? (i := 898) (by decide +kernel), List.mem_of_getElem? (i := 899) (by decide +kernel)⟩
theorem lw_p45 : lw_okq (⟨"DifferRingsModel", "dayOf", "(III)I"⟩, 32) := ⟨⟨by decide +kernel, by decide +kernel⟩, List.mem_of_getElem? (i := 674) (by decide +kernel), List.mem_of_getElem? (i := 911) (by decide +kernel), List.mem_of_getElem? (i := 912) (by decide +kernel)⟩
theorem lw_p46 : lw_okq (⟨"DifferRingsModel", "doesPair", "(II)Z"⟩, 32) := ⟨⟨by decide +kernel, by decide +kernel⟩, List.mem_of_getElem? (i := 674) (by decide +kernel), List.mem_of_getElem? (i := 915) (by decide +kernel), List.mem_of_getElem? (i := 916) (by decide +kernel)⟩
theorem lw_p47 : lw_okq (⟨"DifferRingsModel", "sumNow", "()I"⟩, 32) := ⟨⟨by decide +kernel, by decide +kernel⟩, List.mem_of_getElem? (i := 674) (by decide +kernel), List.mem_of_getElem? (i := 920) (by decide +kernel), List.mem_of_getElem? (i := 921) (by decide +kernel)⟩
def lw_privs_3 : List (MethodName × Nat) := [(⟨"DifferRingsModel", "isNumber", "(I)Z"⟩, 32), (⟨"DifferRingsModel", "doesSteps", "(I)V"⟩, 32), (⟨"DifferRingsModel", "stepsOnce", "()V"⟩, 32), (⟨"DifferRingsModel", "zeros", "()I"⟩, 32), (⟨"DifferRingsModel", "rowNow", "()I"⟩, 32), (⟨"DifferRingsModel", "rowAt", "()I"⟩, 32), (⟨"DifferRingsModel", "tables", "()V"⟩, 32), (⟨"DifferRingsModel", "allRows", "()I"⟩, 32), (⟨"DifferRingsModel", "takesRow", "(I)V"⟩, 32), (⟨"DifferRingsModel", "takesAway", "(I)V"⟩, 32), (⟨"DifferRingsModel", "roundOf", "(I)I"⟩, 32), (⟨"DifferRingsModel", "behind", "(IJ)I"⟩, 32), (⟨"DifferRingsModel", "roundFrom", "(I)I"⟩, 32), (⟨"DifferRingsModel", "dayOf", "(III)I"⟩, 32), (⟨"DifferRingsModel", "doesPair", "(II)Z"⟩, 32), (⟨"DifferRingsModel", "sumNow", "()I"⟩, 32)]
theorem lw_r3 : ∀ q ∈ lw_privs_3, lw_okq q := List.forall_mem_cons.mpr ⟨lw_p32, List.forall_mem_cons.mpr ⟨lw_p33, List.forall_mem_cons.mpr ⟨lw_p34, List.forall_mem_cons.mpr ⟨lw_p35, List.forall_mem_cons.mpr ⟨lw_p36, List.forall_mem_cons.mpr ⟨lw_p37, List.forall_mem_cons.mpr ⟨lw_p38, List.forall_mem_cons.mpr ⟨lw_p39, List.forall_mem_cons.mpr ⟨lw_p40, List.forall_mem_cons.mpr ⟨lw_p41, List.forall_mem_cons.mpr ⟨lw_p42, List.forall_mem_cons.mpr ⟨lw_p43, List.forall_mem_cons.mpr ⟨lw_p44, List.forall_mem_cons.mpr ⟨lw_p45, List.forall_mem_cons.mpr ⟨lw_p46, List.forall_mem_cons.mpr ⟨lw_p47, fun _ h => absurd h List.not_mem_nil⟩⟩⟩⟩⟩⟩⟩⟩⟩⟩⟩⟩⟩⟩⟩⟩
theorem lw_p48 : lw_okq (⟨"DifferRingsModel", "tailNow", "()I"⟩, 32) := ⟨⟨by decide +kernel, by decide +kernel⟩, List.mem_of_getElem? (i := 674) (by decide +kernel), List.mem_of_getElem? (i := 924) (by decide +kernel), List.mem_of_getElem? (i := 925) (by decide +kernel)⟩
theorem lw_p49 : lw_okq (⟨"DifferRingsModel", "rounds", "()I"⟩, 32) := ⟨⟨by decide +kernel, by decide +kernel⟩, List.mem_of_getElem? (i := 674) (by decide +kernel), List.mem_of_getElem? (i := 941) (by decide +kernel), List.mem_of_getElem? (i := 942) (by decide +kernel)⟩
theorem lw_p50 : lw_okq (⟨"DifferRingsModel", "unlikeNow", "(I)I"⟩, 32) := ⟨⟨by decide +kernel, by decide +kernel⟩, List.mem_of_getElem? (i := 674) (by decide +kernel), List.mem_of_getElem? (i := 957) (by decide +kernel), List.mem_of_getElem? (i := 958) (by decide +kernel)⟩
theorem lw_p51 : lw_okq (⟨"DifferRingsModel", "areSo", "()Z"⟩, 32) := ⟨⟨by decide +kernel, by decide +kernel⟩, List.mem_of_getElem? (i := 674) (by decide +kernel), List.mem_of_getElem? (i := 976) (by decide +kernel), List.mem_of_getElem? (i := 977) (by decide +kernel)⟩
theorem lw_p52 : lw_okq (⟨"DifferRingsModel", "isSo", "(I)Z"⟩, 32) := ⟨⟨by decide +kernel, by decide +kernel⟩, List.mem_of_getElem? (i := 674) (by decide +kernel), List.mem_of_getElem? (i := 980) (by decide +kernel), List.mem_of_getElem? (i := 981) (by decide +kernel)⟩
theorem lw_p53 : lw_okq (⟨"DifferRingsModel", "noCell", "(II)I"⟩, 32) := ⟨⟨by decide +kernel, by decide +kernel⟩, List.mem_of_getElem? (i := 674) (by decide +kernel), List.mem_of_getElem? (i := 1011) (by decide +kernel), List.mem_of_getElem? (i := 1012) (by decide +kernel)⟩
theorem lw_p54 : lw_okq (⟨"DifferRingsModel", "failedLong", "(I)J"⟩, 32) := ⟨⟨by decide +kernel, by decide +kernel⟩, List.mem_of_getElem? (i := 674) (by decide +kernel), List.mem_of_getElem? (i := 1019) (by decide +kernel), List.mem_of_getElem? (i := 1020) (by decide +kernel)⟩
theorem lw_p55 : lw_okq (⟨"DifferRingsModel", "traced", "(I)V"⟩, 32) := ⟨⟨by decide +kernel, by decide +kernel⟩, List.mem_of_getElem? (i := 674) (by decide +kernel), List.mem_of_getElem? (i := 1031) (by decide +kernel), List.mem_of_getElem? (i := 1032) (by decide +kernel)⟩
def lw_privs_4 : List (MethodName × Nat) := [(⟨"DifferRingsModel", "tailNow", "()I"⟩, 32), (⟨"DifferRingsModel", "rounds", "()I"⟩, 32), (⟨"DifferRingsModel", "unlikeNow", "(I)I"⟩, 32), (⟨"DifferRingsModel", "areSo", "()Z"⟩, 32), (⟨"DifferRingsModel", "isSo", "(I)Z"⟩, 32), (⟨"DifferRingsModel", "noCell", "(II)I"⟩, 32), (⟨"DifferRingsModel", "failedLong", "(I)J"⟩, 32), (⟨"DifferRingsModel", "traced", "(I)V"⟩, 32)]
theorem lw_r4 : ∀ q ∈ lw_privs_4, lw_okq q := List.forall_mem_cons.mpr ⟨lw_p48, List.forall_mem_cons.mpr ⟨lw_p49, List.forall_mem_cons.mpr ⟨lw_p50, List.forall_mem_cons.mpr ⟨lw_p51, List.forall_mem_cons.mpr ⟨lw_p52, List.forall_mem_cons.mpr ⟨lw_p53, List.forall_mem_cons.mpr ⟨lw_p54, List.forall_mem_cons.mpr ⟨lw_p55, fun _ h => absurd h List.not_mem_nil⟩⟩⟩⟩⟩⟩⟩⟩
def lw_privs : List (MethodName × Nat) := lw_privs_1 ++ (lw_privs_2 ++ (lw_privs_3 ++ (lw_privs_4)))
def lw_tbl : List Cond := k2_sels lw_privs ++ tables_1
theorem lw_privs_ok : ∀ q ∈ lw_privs, lw_okq q := by
  show ∀ q ∈ lw_privs_1 ++ (lw_privs_2 ++ (lw_privs_3 ++ (lw_privs_4))), lw_okq q
  exact List.forall_mem_append.mpr ⟨lw_r1, List.forall_mem_append.mpr ⟨lw_r2, List.forall_mem_append.mpr ⟨lw_r3, lw_r4⟩⟩⟩
end
section
def RX0 : String := "DifferRings$AllRows"
def TX0 : u_T := fun k => match k with
  | 0 => ("DifferRings$AllRows", "probe", "LDifferRings$Ring;", true)
  | 1 => ("DifferRings$AllRows", "next", "[I", false)
  | 2 => ("DifferRings$AllRows", "comers", "[I", false)
  | 3 => ("DifferRings$AllRows", "order", "[I", false)
  | 4 => ("DifferRings$AllRows", "root", "[I", false)
  | 5 => ("DifferRings$AllRows", "tail", "[I", false)
  | 6 => ("DifferRings$AllRows", "ordered", "I", false)
  | 7 => ("DifferRings$AllRows", "count", "I", false)
  | 8 => ("DifferRings$AllRows", "staying", "I", false)
  | 9 => ("DifferRings$AllRows", "barren", "I", false)
  | 10 => ("DifferRings$AllRows", "goingOut", "I", false)
  | 11 => ("DifferRings$AllRows", "rounds", "I", false)
  | 12 => ("DifferRings$AllRows", "longestTail", "I", false)
  | _ => ("DifferRings$AllRows", "firstOfLongest", "I", false)
def tyX0 : Nat → FieldType := fun k => match k with
  | 0 => .object "DifferRings$Ring"
  | 1 => .array .int
  | 2 => .array .int
  | 3 => .array .int
  | 4 => .array .int
  | 5 => .array .int
  | 6 => .int
  | 7 => .int
  | 8 => .int
  | 9 => .int
  | 10 => .int
  | 11 => .int
  | 12 => .int
  | _ => .int
abbrev wsX00 : List Cond := u_ws RX0 TX0 14
theorem nmX0 : ∀ a, a < 14 → ∀ b, b < 14 → a ≠ b → (TX0 a).2.1 ≠ (TX0 b).2.1 := by decide +kernel
theorem tyX0_ok : ∀ k, k < 14 → parseFieldDescriptor (TX0 k).2.2.1 = some (tyX0 k) := by decide +kernel
abbrev cX0_init : ByteArray := prog_2_method_1_code
def yX0_init : MethodName := ⟨RX0, "<init>", "()V"⟩
abbrev cX0_forget : ByteArray := prog_2_method_2_code
def yX0_forget : MethodName := ⟨RX0, "forget", "()V"⟩
abbrev cX0_workOut : ByteArray := prog_2_method_3_code
def yX0_workOut : MethodName := ⟨RX0, "workOut", "(LDifferRings$Ring;)V"⟩
abbrev cX0_makeRoom : ByteArray := prog_2_method_4_code
def yX0_makeRoom : MethodName := ⟨RX0, "makeRoom", "()V"⟩
abbrev cX0_findNext : ByteArray := prog_2_method_5_code
def yX0_findNext : MethodName := ⟨RX0, "findNext", "()V"⟩
abbrev cX0_orderThoseThatDoNotComeBack : ByteArray := prog_2_method_6_code
def yX0_orderThoseThatDoNotComeBack : MethodName := ⟨RX0, "orderThoseThatDoNotComeBack", "()V"⟩
abbrev cX0_findRounds : ByteArray := prog_2_method_7_code
def yX0_findRounds : MethodName := ⟨RX0, "findRounds", "()V"⟩
abbrev cX0_markRound : ByteArray := prog_2_method_8_code
def yX0_markRound : MethodName := ⟨RX0, "markRound", "(I)V"⟩
abbrev cX0_findTails : ByteArray := prog_2_method_9_code
def yX0_findTails : MethodName := ⟨RX0, "findTails", "()V"⟩
abbrev cX0_sumUp : ByteArray := prog_2_method_10_code
def yX0_sumUp : MethodName := ⟨RX0, "sumUp", "()V"⟩
abbrev cX0_isRow : ByteArray := prog_2_method_11_code
def yX0_isRow : MethodName := ⟨RX0, "isRow", "(I)Z"⟩
abbrev cX0_nextOf : ByteArray := prog_2_method_12_code
def yX0_nextOf : MethodName := ⟨RX0, "nextOf", "(I)I"⟩
abbrev cX0_tailOf : ByteArray := prog_2_method_13_code
def yX0_tailOf : MethodName := ⟨RX0, "tailOf", "(I)I"⟩
abbrev cX0_roundOf : ByteArray := prog_2_method_14_code
def yX0_roundOf : MethodName := ⟨RX0, "roundOf", "(I)I"⟩
abbrev cX0_goesOut : ByteArray := prog_2_method_15_code
def yX0_goesOut : MethodName := ⟨RX0, "goesOut", "(I)Z"⟩
abbrev cX0_behind : ByteArray := prog_2_method_16_code
def yX0_behind : MethodName := ⟨RX0, "behind", "(IJ)I"⟩
abbrev cX0_comersOf : ByteArray := prog_2_method_17_code
def yX0_comersOf : MethodName := ⟨RX0, "comersOf", "(I)I"⟩
abbrev cX0_firstComerOf : ByteArray := prog_2_method_18_code
def yX0_firstComerOf : MethodName := ⟨RX0, "firstComerOf", "(I)I"⟩
abbrev cX0_meeting : ByteArray := prog_2_method_19_code
def yX0_meeting : MethodName := ⟨RX0, "meeting", "(II)I"⟩
abbrev cX0_leastSetToGoOut : ByteArray := prog_2_method_20_code
def yX0_leastSetToGoOut : MethodName := ⟨RX0, "leastSetToGoOut", "(I)I"⟩
abbrev cX0_unlikePlaces : ByteArray := prog_2_method_21_code
def yX0_unlikePlaces : MethodName := ⟨RX0, "unlikePlaces", "(II)I"⟩
abbrev cX0_numberIn : ByteArray := prog_2_method_22_code
def yX0_numberIn : MethodName := ⟨RX0, "numberIn", "(II)I"⟩
def RX1 : String := "DifferRings$Day"
def TX1 : u_T := fun k => match k with
  | 0 => ("DifferRings$Day", "firstWrong", "I", false)
  | 1 => ("DifferRings$Day", "stepsIn", "I", false)
  | _ => ("DifferRings$Day", "outs", "I", false)
def tyX1 : Nat → FieldType := fun k => match k with
  | 0 => .int
  | 1 => .int
  | _ => .int
abbrev wsX10 : List Cond := u_ws RX1 TX1 3
theorem nmX1 : ∀ a, a < 3 → ∀ b, b < 3 → a ≠ b → (TX1 a).2.1 ≠ (TX1 b).2.1 := by decide +kernel
theorem tyX1_ok : ∀ k, k < 3 → parseFieldDescriptor (TX1 k).2.2.1 = some (tyX1 k) := by decide +kernel
abbrev cX1_init : ByteArray := prog_3_method_1_code
def yX1_init : MethodName := ⟨RX1, "<init>", "()V"⟩
abbrev cX1_areActs : ByteArray := prog_3_method_2_code
def yX1_areActs : MethodName := ⟨RX1, "areActs", "(LDifferRings$Sheet;II)Z"⟩
abbrev cX1_isAct : ByteArray := prog_3_method_3_code
def yX1_isAct : MethodName := ⟨RX1, "isAct", "(II)Z"⟩
abbrev cX1_play : ByteArray := prog_3_method_4_code
def yX1_play : MethodName := ⟨RX1, "play", "(LDifferRings$Ring;LDifferRings$Sheet;II)V"⟩
abbrev cX1_canDo : ByteArray := prog_3_method_5_code
def yX1_canDo : MethodName := ⟨RX1, "canDo", "(LDifferRings$Ring;II)Z"⟩
def RX2 : String := "DifferRings$Readings"
def TX2 : u_T := fun k => match k with
  | 0 => ("DifferRings$Readings", "time", "[I", true)
  | 1 => ("DifferRings$Readings", "place", "[I", true)
  | 2 => ("DifferRings$Readings", "number", "[I", true)
  | _ => ("DifferRings$Readings", "count", "I", false)
def tyX2 : Nat → FieldType := fun k => match k with
  | 0 => .array .int
  | 1 => .array .int
  | 2 => .array .int
  | _ => .int
abbrev wsX20 : List Cond := u_ws RX2 TX2 4
theorem nmX2 : ∀ a, a < 4 → ∀ b, b < 4 → a ≠ b → (TX2 a).2.1 ≠ (TX2 b).2.1 := by decide +kernel
theorem tyX2_ok : ∀ k, k < 4 → parseFieldDescriptor (TX2 k).2.2.1 = some (tyX2 k) := by decide +kernel
abbrev cX2_init : ByteArray := prog_4_method_1_code
def yX2_init : MethodName := ⟨RX2, "<init>", "()V"⟩
abbrev cX2_keep : ByteArray := prog_4_method_2_code
def yX2_keep : MethodName := ⟨RX2, "keep", "(III)I"⟩
abbrev cX2_areSo : ByteArray := prog_4_method_3_code
def yX2_areSo : MethodName := ⟨RX2, "areSo", "(LDifferRings$Ring;)Z"⟩
abbrev cX2_lastTime : ByteArray := prog_4_method_4_code
def yX2_lastTime : MethodName := ⟨RX2, "lastTime", "()I"⟩
abbrev cX2_areSoAt : ByteArray := prog_4_method_5_code
def yX2_areSoAt : MethodName := ⟨RX2, "areSoAt", "(ILDifferRings$Ring;)Z"⟩
def RX3 : String := "DifferRings$Ring"
def TX3 : u_T := fun k => match k with
  | 0 => ("DifferRings$Ring", "base", "I", false)
  | 1 => ("DifferRings$Ring", "size", "I", false)
  | 2 => ("DifferRings$Ring", "kind", "[I", true)
  | 3 => ("DifferRings$Ring", "number", "[I", true)
  | _ => ("DifferRings$Ring", "coming", "[I", true)
def tyX3 : Nat → FieldType := fun k => match k with
  | 0 => .int
  | 1 => .int
  | 2 => .array .int
  | 3 => .array .int
  | _ => .array .int
abbrev wsX30 : List Cond := u_ws RX3 TX3 5
theorem nmX3 : ∀ a, a < 5 → ∀ b, b < 5 → a ≠ b → (TX3 a).2.1 ≠ (TX3 b).2.1 := by decide +kernel
theorem tyX3_ok : ∀ k, k < 5 → parseFieldDescriptor (TX3 k).2.2.1 = some (tyX3 k) := by decide +kernel
abbrev cX3_init : ByteArray := prog_5_method_1_code
def yX3_init : MethodName := ⟨RX3, "<init>", "()V"⟩
abbrev cX3_isNone : ByteArray := prog_5_method_2_code
def yX3_isNone : MethodName := ⟨RX3, "isNone", "()Z"⟩
abbrev cX3_has : ByteArray := prog_5_method_3_code
def yX3_has : MethodName := ⟨RX3, "has", "(I)Z"⟩
abbrev cX3_isNumber : ByteArray := prog_5_method_4_code
def yX3_isNumber : MethodName := ⟨RX3, "isNumber", "(I)Z"⟩
abbrev cX3_takeAll : ByteArray := prog_5_method_5_code
def yX3_takeAll : MethodName := ⟨RX3, "takeAll", "(LDifferRings$Ring;)V"⟩
abbrev cX3_takeKinds : ByteArray := prog_5_method_6_code
def yX3_takeKinds : MethodName := ⟨RX3, "takeKinds", "(LDifferRings$Ring;)V"⟩
abbrev cX3_takeRow : ByteArray := prog_5_method_7_code
def yX3_takeRow : MethodName := ⟨RX3, "takeRow", "(LDifferRings$Sheet;I)Z"⟩
abbrev cX3_takeFirstRow : ByteArray := prog_5_method_8_code
def yX3_takeFirstRow : MethodName := ⟨RX3, "takeFirstRow", "()V"⟩
abbrev cX3_takeNextRow : ByteArray := prog_5_method_9_code
def yX3_takeNextRow : MethodName := ⟨RX3, "takeNextRow", "()V"⟩
abbrev cX3_stepped : ByteArray := prog_5_method_10_code
def yX3_stepped : MethodName := ⟨RX3, "stepped", "(I)I"⟩
abbrev cX3_howFar : ByteArray := prog_5_method_11_code
def yX3_howFar : MethodName := ⟨RX3, "howFar", "(II)I"⟩
abbrev cX3_go : ByteArray := prog_5_method_12_code
def yX3_go : MethodName := ⟨RX3, "go", "(I)V"⟩
abbrev cX3_zeros : ByteArray := prog_5_method_13_code
def yX3_zeros : MethodName := ⟨RX3, "zeros", "()I"⟩
abbrev cX3_isOut : ByteArray := prog_5_method_14_code
def yX3_isOut : MethodName := ⟨RX3, "isOut", "()Z"⟩
abbrev cX3_total : ByteArray := prog_5_method_15_code
def yX3_total : MethodName := ⟨RX3, "total", "()I"⟩
abbrev cX3_code : ByteArray := prog_5_method_16_code
def yX3_code : MethodName := ⟨RX3, "code", "()I"⟩
abbrev cX3_steppedCode : ByteArray := prog_5_method_17_code
def yX3_steppedCode : MethodName := ⟨RX3, "steppedCode", "()I"⟩
def RX4 : String := "DifferRings$Sheet"
def TX4 : u_T := fun k => match k with
  | 0 => ("DifferRings$Sheet", "lane", "I", false)
  | 1 => ("DifferRings$Sheet", "size", "I", false)
  | _ => ("DifferRings$Sheet", "cells", "[I", true)
def tyX4 : Nat → FieldType := fun k => match k with
  | 0 => .int
  | 1 => .int
  | _ => .array .int
abbrev wsX40 : List Cond := u_ws RX4 TX4 3
theorem nmX4 : ∀ a, a < 3 → ∀ b, b < 3 → a ≠ b → (TX4 a).2.1 ≠ (TX4 b).2.1 := by decide +kernel
theorem tyX4_ok : ∀ k, k < 3 → parseFieldDescriptor (TX4 k).2.2.1 = some (tyX4 k) := by decide +kernel
abbrev cX4_init : ByteArray := prog_6_method_1_code
def yX4_init : MethodName := ⟨RX4, "<init>", "()V"⟩
abbrev cX4_hasNothing : ByteArray := prog_6_method_2_code
def yX4_hasNothing : MethodName := ⟨RX4, "hasNothing", "()Z"⟩
abbrev cX4_renew : ByteArray := prog_6_method_3_code
def yX4_renew : MethodName := ⟨RX4, "renew", "(II)V"⟩
abbrev cX4_drop : ByteArray := prog_6_method_4_code
def yX4_drop : MethodName := ⟨RX4, "drop", "()V"⟩
abbrev cX4_faultAs : ByteArray := prog_6_method_5_code
def yX4_faultAs : MethodName := ⟨RX4, "faultAs", "(III)I"⟩
abbrev cX4_faultOf : ByteArray := prog_6_method_6_code
def yX4_faultOf : MethodName := ⟨RX4, "faultOf", "(II)I"⟩
abbrev cX4_faultOfCopy : ByteArray := prog_6_method_7_code
def yX4_faultOfCopy : MethodName := ⟨RX4, "faultOfCopy", "(ILDifferRings$Sheet;II)I"⟩
abbrev cX4_spans : ByteArray := prog_6_method_8_code
def yX4_spans : MethodName := ⟨RX4, "spans", "(II)Z"⟩
abbrev cX4_at : ByteArray := prog_6_method_9_code
def yX4_at : MethodName := ⟨RX4, "at", "(I)I"⟩
abbrev cX4_change : ByteArray := prog_6_method_10_code
def yX4_change : MethodName := ⟨RX4, "change", "(II)V"⟩
abbrev cX4_cut : ByteArray := prog_6_method_11_code
def yX4_cut : MethodName := ⟨RX4, "cut", "(I)I"⟩
def RX5 : String := "DifferRings$Spread"
def TX5 : u_T := fun k => match k with
  | 0 => ("DifferRings$Spread", "row", "[I", false)
  | 1 => ("DifferRings$Spread", "weight", "[I", false)
  | 2 => ("DifferRings$Spread", "place", "[I", false)
  | 3 => ("DifferRings$Spread", "unlike", "I", false)
  | _ => ("DifferRings$Spread", "age", "I", false)
def tyX5 : Nat → FieldType := fun k => match k with
  | 0 => .array .int
  | 1 => .array .int
  | 2 => .array .int
  | 3 => .int
  | _ => .int
abbrev wsX50 : List Cond := u_ws RX5 TX5 5
theorem nmX5 : ∀ a, a < 5 → ∀ b, b < 5 → a ≠ b → (TX5 a).2.1 ≠ (TX5 b).2.1 := by decide +kernel
theorem tyX5_ok : ∀ k, k < 5 → parseFieldDescriptor (TX5 k).2.2.1 = some (tyX5 k) := by decide +kernel
abbrev cX5_init : ByteArray := prog_7_method_1_code
def yX5_init : MethodName := ⟨RX5, "<init>", "()V"⟩
abbrev cX5_forget : ByteArray := prog_7_method_2_code
def yX5_forget : MethodName := ⟨RX5, "forget", "()V"⟩
abbrev cX5_goTo : ByteArray := prog_7_method_3_code
def yX5_goTo : MethodName := ⟨RX5, "goTo", "(LDifferRings$AllRows;I)V"⟩
abbrev cX5_begin : ByteArray := prog_7_method_4_code
def yX5_begin : MethodName := ⟨RX5, "begin", "(LDifferRings$AllRows;)V"⟩
abbrev cX5_stepAll : ByteArray := prog_7_method_5_code
def yX5_stepAll : MethodName := ⟨RX5, "stepAll", "(LDifferRings$AllRows;)V"⟩
abbrev cX5_howMany : ByteArray := prog_7_method_6_code
def yX5_howMany : MethodName := ⟨RX5, "howMany", "(LDifferRings$AllRows;II)I"⟩
def RX6 : String := "DifferRings$Text"
def TX6 : u_T := fun k => match k with
  | _ => ("", "", "", false)
def tyX6 : Nat → FieldType := fun k => match k with
  | _ => .int
abbrev wsX60 : List Cond := u_ws RX6 TX6 0
theorem nmX6 : ∀ a, a < 0 → ∀ b, b < 0 → a ≠ b → (TX6 a).2.1 ≠ (TX6 b).2.1 := by decide +kernel
theorem tyX6_ok : ∀ k, k < 0 → parseFieldDescriptor (TX6 k).2.2.1 = some (tyX6 k) := by decide +kernel
abbrev cX6_firstFault : ByteArray := prog_8_method_2_code
def yX6_firstFault : MethodName := ⟨RX6, "firstFault", "(LDifferRings$Sheet;II)I"⟩
abbrev cX6_goesOn : ByteArray := prog_8_method_3_code
def yX6_goesOn : MethodName := ⟨RX6, "goesOn", "(III)Z"⟩
abbrev cX6_kindOf : ByteArray := prog_8_method_4_code
def yX6_kindOf : MethodName := ⟨RX6, "kindOf", "(I)I"⟩
abbrev cX6_take : ByteArray := prog_8_method_5_code
def yX6_take : MethodName := ⟨RX6, "take", "(LDifferRings$Sheet;IILDifferRings$Ring;)V"⟩
def RX7 : String := "DifferRings"
def TX7 : u_T := fun k => match k with
  | 0 => ("DifferRings", "sheets", "[LDifferRings$Sheet;", true)
  | 1 => ("DifferRings", "live", "LDifferRings$Ring;", true)
  | 2 => ("DifferRings", "trial", "LDifferRings$Ring;", true)
  | 3 => ("DifferRings", "all", "LDifferRings$AllRows;", true)
  | 4 => ("DifferRings", "spread", "LDifferRings$Spread;", true)
  | 5 => ("DifferRings", "readings", "LDifferRings$Readings;", true)
  | 6 => ("DifferRings", "played", "LDifferRings$Day;", true)
  | 7 => ("DifferRings", "done", "I", false)
  | 8 => ("DifferRings", "traced", "I", false)
  | _ => ("DifferRings", "faulted", "I", false)
def tyX7 : Nat → FieldType := fun k => match k with
  | 0 => .array (.object "DifferRings$Sheet")
  | 1 => .object "DifferRings$Ring"
  | 2 => .object "DifferRings$Ring"
  | 3 => .object "DifferRings$AllRows"
  | 4 => .object "DifferRings$Spread"
  | 5 => .object "DifferRings$Readings"
  | 6 => .object "DifferRings$Day"
  | 7 => .int
  | 8 => .int
  | _ => .int
abbrev wsX70 : List Cond := u_ws RX7 TX7 10
theorem nmX7 : ∀ a, a < 10 → ∀ b, b < 10 → a ≠ b → (TX7 a).2.1 ≠ (TX7 b).2.1 := by decide +kernel
theorem tyX7_ok : ∀ k, k < 10 → parseFieldDescriptor (TX7 k).2.2.1 = some (tyX7 k) := by decide +kernel
abbrev cX7_init : ByteArray := prog_1_method_1_code
def yX7_init : MethodName := ⟨RX7, "<init>", "()V"⟩
abbrev cX7_ring : ByteArray := prog_1_method_2_code
def yX7_ring : MethodName := ⟨RX7, "ring", "(IIII)I"⟩
abbrev cX7_ofPlace : ByteArray := prog_1_method_3_code
def yX7_ofPlace : MethodName := ⟨RX7, "ofPlace", "(II)I"⟩
abbrev cX7_write : ByteArray := prog_1_method_4_code
def yX7_write : MethodName := ⟨RX7, "write", "(II)I"⟩
abbrev cX7_steps : ByteArray := prog_1_method_5_code
def yX7_steps : MethodName := ⟨RX7, "steps", "(I)I"⟩
abbrev cX7_after : ByteArray := prog_1_method_6_code
def yX7_after : MethodName := ⟨RX7, "after", "(IJ)I"⟩
abbrev cX7_day : ByteArray := prog_1_method_7_code
def yX7_day : MethodName := ⟨RX7, "day", "(IIIII)I"⟩
abbrev cX7_ofDay : ByteArray := prog_1_method_8_code
def yX7_ofDay : MethodName := ⟨RX7, "ofDay", "(I)I"⟩
abbrev cX7_now : ByteArray := prog_1_method_9_code
def yX7_now : MethodName := ⟨RX7, "now", "(I)I"⟩
abbrev cX7_from : ByteArray := prog_1_method_10_code
def yX7_from : MethodName := ⟨RX7, "from", "(I)I"⟩
abbrev cX7_rows : ByteArray := prog_1_method_11_code
def yX7_rows : MethodName := ⟨RX7, "rows", "(I)I"⟩
abbrev cX7_longest : ByteArray := prog_1_method_12_code
def yX7_longest : MethodName := ⟨RX7, "longest", "(I)I"⟩
abbrev cX7_meet : ByteArray := prog_1_method_13_code
def yX7_meet : MethodName := ⟨RX7, "meet", "(III)I"⟩
abbrev cX7_few : ByteArray := prog_1_method_14_code
def yX7_few : MethodName := ⟨RX7, "few", "(I)I"⟩
abbrev cX7_reading : ByteArray := prog_1_method_15_code
def yX7_reading : MethodName := ⟨RX7, "reading", "(III)I"⟩
abbrev cX7_back : ByteArray := prog_1_method_16_code
def yX7_back : MethodName := ⟨RX7, "back", "(I)I"⟩
abbrev cX7_kinds : ByteArray := prog_1_method_17_code
def yX7_kinds : MethodName := ⟨RX7, "kinds", "(I)I"⟩
abbrev cX7_firsts : ByteArray := prog_1_method_18_code
def yX7_firsts : MethodName := ⟨RX7, "firsts", "(I)I"⟩
abbrev cX7_odds : ByteArray := prog_1_method_19_code
def yX7_odds : MethodName := ⟨RX7, "odds", "(IIII)J"⟩
abbrev cX7_sheet : ByteArray := prog_1_method_20_code
def yX7_sheet : MethodName := ⟨RX7, "sheet", "(III)I"⟩
abbrev cX7_lose : ByteArray := prog_1_method_21_code
def yX7_lose : MethodName := ⟨RX7, "lose", "(I)I"⟩
abbrev cX7_put : ByteArray := prog_1_method_22_code
def yX7_put : MethodName := ⟨RX7, "put", "(III)I"⟩
abbrev cX7_cell : ByteArray := prog_1_method_23_code
def yX7_cell : MethodName := ⟨RX7, "cell", "(III)J"⟩
abbrev cX7_copy : ByteArray := prog_1_method_24_code
def yX7_copy : MethodName := ⟨RX7, "copy", "(IIIII)I"⟩
abbrev cX7_tell : ByteArray := prog_1_method_25_code
def yX7_tell : MethodName := ⟨RX7, "tell", "(I)I"⟩
abbrev cX7_tellPlain : ByteArray := prog_1_method_26_code
def yX7_tellPlain : MethodName := ⟨RX7, "tellPlain", "(I)I"⟩
abbrev cX7_tellFar : ByteArray := prog_1_method_27_code
def yX7_tellFar : MethodName := ⟨RX7, "tellFar", "(I)I"⟩
abbrev cX7_tellMixed : ByteArray := prog_1_method_28_code
def yX7_tellMixed : MethodName := ⟨RX7, "tellMixed", "(I)I"⟩
abbrev cX7_call : ByteArray := prog_1_method_29_code
def yX7_call : MethodName := ⟨RX7, "call", "(I)I"⟩
abbrev cX7_as : ByteArray := prog_1_method_30_code
def yX7_as : MethodName := ⟨RX7, "as", "(II)I"⟩
abbrev cX7_trace : ByteArray := prog_1_method_31_code
def yX7_trace : MethodName := ⟨RX7, "trace", "()I"⟩
abbrev cX7_fault : ByteArray := prog_1_method_32_code
def yX7_fault : MethodName := ⟨RX7, "fault", "()I"⟩
abbrev cX7_many : ByteArray := prog_1_method_33_code
def yX7_many : MethodName := ⟨RX7, "many", "(I)I"⟩
abbrev cX7_leave : ByteArray := prog_1_method_34_code
def yX7_leave : MethodName := ⟨RX7, "leave", "(I)V"⟩
abbrev cX7_answerOfFault : ByteArray := prog_1_method_35_code
def yX7_answerOfFault : MethodName := ⟨RX7, "answerOfFault", "()I"⟩
abbrev cX7_isSheet : ByteArray := prog_1_method_36_code
def yX7_isSheet : MethodName := ⟨RX7, "isSheet", "(I)Z"⟩
abbrev cX7_isLane : ByteArray := prog_1_method_37_code
def yX7_isLane : MethodName := ⟨RX7, "isLane", "(I)Z"⟩
abbrev cX7_isOfDay : ByteArray := prog_1_method_38_code
def yX7_isOfDay : MethodName := ⟨RX7, "isOfDay", "(I)Z"⟩
abbrev cX7_isReadable : ByteArray := prog_1_method_39_code
def yX7_isReadable : MethodName := ⟨RX7, "isReadable", "(II)Z"⟩
abbrev cX7_commonDivisor : ByteArray := prog_1_method_40_code
def yX7_commonDivisor : MethodName := ⟨RX7, "commonDivisor", "(II)I"⟩
def RX8 : String := "DifferRingsModel"
def TX8 : u_T := fun k => match k with
  | 0 => ("DifferRingsModel", "fault", "I", false)
  | 1 => ("DifferRingsModel", "places", "I", false)
  | 2 => ("DifferRingsModel", "base", "I", false)
  | 3 => ("DifferRingsModel", "stepsDone", "I", false)
  | 4 => ("DifferRingsModel", "kindOf", "[I", true)
  | 5 => ("DifferRingsModel", "numberOf", "[I", true)
  | 6 => ("DifferRingsModel", "readAt", "I", false)
  | 7 => ("DifferRingsModel", "readPlaces", "I", false)
  | 8 => ("DifferRingsModel", "readBase", "I", false)
  | 9 => ("DifferRingsModel", "readKind", "[I", true)
  | 10 => ("DifferRingsModel", "readNumber", "[I", true)
  | 11 => ("DifferRingsModel", "at", "[I", true)
  | 12 => ("DifferRingsModel", "then", "[I", true)
  | 13 => ("DifferRingsModel", "nextOf", "[I", true)
  | 14 => ("DifferRingsModel", "fromOf", "[I", true)
  | 15 => ("DifferRingsModel", "goneAt", "[I", true)
  | 16 => ("DifferRingsModel", "tailOf", "[I", true)
  | 17 => ("DifferRingsModel", "outOf", "[I", true)
  | 18 => ("DifferRingsModel", "gone", "I", false)
  | 19 => ("DifferRingsModel", "barren", "I", false)
  | 20 => ("DifferRingsModel", "dayOuts", "I", false)
  | 21 => ("DifferRingsModel", "daySteps", "I", false)
  | 22 => ("DifferRingsModel", "hadNumber", "[I", true)
  | 23 => ("DifferRingsModel", "readings", "I", false)
  | 24 => ("DifferRingsModel", "readingAt", "[I", true)
  | 25 => ("DifferRingsModel", "readingOf", "[I", true)
  | 26 => ("DifferRingsModel", "readingIs", "[I", true)
  | 27 => ("DifferRingsModel", "sheetSize", "[I", true)
  | 28 => ("DifferRingsModel", "sheetLane", "[I", true)
  | 29 => ("DifferRingsModel", "sheet", "[I", true)
  | 30 => ("DifferRingsModel", "hands", "[I", true)
  | _ => ("DifferRingsModel", "traceNow", "I", false)
def tyX8 : Nat → FieldType := fun k => match k with
  | 0 => .int
  | 1 => .int
  | 2 => .int
  | 3 => .int
  | 4 => .array .int
  | 5 => .array .int
  | 6 => .int
  | 7 => .int
  | 8 => .int
  | 9 => .array .int
  | 10 => .array .int
  | 11 => .array .int
  | 12 => .array .int
  | 13 => .array .int
  | 14 => .array .int
  | 15 => .array .int
  | 16 => .array .int
  | 17 => .array .int
  | 18 => .int
  | 19 => .int
  | 20 => .int
  | 21 => .int
  | 22 => .array .int
  | 23 => .int
  | 24 => .array .int
  | 25 => .array .int
  | 26 => .array .int
  | 27 => .array .int
  | 28 => .array .int
  | 29 => .array .int
  | 30 => .array .int
  | _ => .int
abbrev wsX80 : List Cond := u_ws RX8 TX8 32
theorem nmX8 : ∀ a, a < 32 → ∀ b, b < 32 → a ≠ b → (TX8 a).2.1 ≠ (TX8 b).2.1 := by decide +kernel
theorem tyX8_ok : ∀ k, k < 32 → parseFieldDescriptor (TX8 k).2.2.1 = some (tyX8 k) := by decide +kernel
abbrev cX8_init : ByteArray := prog_10_method_1_code
def yX8_init : MethodName := ⟨RX8, "<init>", "()V"⟩
abbrev cX8_in : ByteArray := prog_10_method_2_code
def yX8_in : MethodName := ⟨RX8, "in", "(JJJ)Z"⟩
abbrev cX8_lost : ByteArray := prog_10_method_3_code
def yX8_lost : MethodName := ⟨RX8, "lost", "()J"⟩
abbrev cX8_bits : ByteArray := prog_10_method_4_code
def yX8_bits : MethodName := ⟨RX8, "bits", "(I)I"⟩
abbrev cX8_share : ByteArray := prog_10_method_5_code
def yX8_share : MethodName := ⟨RX8, "share", "(JJI)J"⟩
abbrev cX8_refused : ByteArray := prog_10_method_6_code
def yX8_refused : MethodName := ⟨RX8, "refused", "(I)I"⟩
abbrev cX8_failed : ByteArray := prog_10_method_7_code
def yX8_failed : MethodName := ⟨RX8, "failed", "(I)I"⟩
abbrev cX8_failedLong : ByteArray := prog_10_method_8_code
def yX8_failedLong : MethodName := ⟨RX8, "failedLong", "(I)J"⟩
abbrev cX8_noPlace : ByteArray := prog_10_method_9_code
def yX8_noPlace : MethodName := ⟨RX8, "noPlace", "(I)Z"⟩
abbrev cX8_codeAt : ByteArray := prog_10_method_10_code
def yX8_codeAt : MethodName := ⟨RX8, "codeAt", "(II)I"⟩
abbrev cX8_readsPlace : ByteArray := prog_10_method_11_code
def yX8_readsPlace : MethodName := ⟨RX8, "readsPlace", "(II)Z"⟩
abbrev cX8_readsRing : ByteArray := prog_10_method_12_code
def yX8_readsRing : MethodName := ⟨RX8, "readsRing", "(II)Z"⟩
abbrev cX8_cellsBarred : ByteArray := prog_10_method_13_code
def yX8_cellsBarred : MethodName := ⟨RX8, "cellsBarred", "(IIIJ)I"⟩
abbrev cX8_ring : ByteArray := prog_10_method_14_code
def yX8_ring : MethodName := ⟨RX8, "ring", "(IIII)I"⟩
abbrev cX8_apart : ByteArray := prog_10_method_15_code
def yX8_apart : MethodName := ⟨RX8, "apart", "(II)I"⟩
abbrev cX8_becomes : ByteArray := prog_10_method_16_code
def yX8_becomes : MethodName := ⟨RX8, "becomes", "(I)I"⟩
abbrev cX8_stepsOnce : ByteArray := prog_10_method_17_code
def yX8_stepsOnce : MethodName := ⟨RX8, "stepsOnce", "()V"⟩
abbrev cX8_takesNow : ByteArray := prog_10_method_18_code
def yX8_takesNow : MethodName := ⟨RX8, "takesNow", "()V"⟩
abbrev cX8_takesRow : ByteArray := prog_10_method_19_code
def yX8_takesRow : MethodName := ⟨RX8, "takesRow", "(I)V"⟩
abbrev cX8_rowAt : ByteArray := prog_10_method_20_code
def yX8_rowAt : MethodName := ⟨RX8, "rowAt", "()I"⟩
abbrev cX8_rowNow : ByteArray := prog_10_method_21_code
def yX8_rowNow : MethodName := ⟨RX8, "rowNow", "()I"⟩
abbrev cX8_allRows : ByteArray := prog_10_method_22_code
def yX8_allRows : MethodName := ⟨RX8, "allRows", "()I"⟩
abbrev cX8_ofPlace : ByteArray := prog_10_method_23_code
def yX8_ofPlace : MethodName := ⟨RX8, "ofPlace", "(II)I"⟩
abbrev cX8_isNumber : ByteArray := prog_10_method_24_code
def yX8_isNumber : MethodName := ⟨RX8, "isNumber", "(I)Z"⟩
abbrev cX8_write : ByteArray := prog_10_method_25_code
def yX8_write : MethodName := ⟨RX8, "write", "(II)I"⟩
abbrev cX8_zeros : ByteArray := prog_10_method_26_code
def yX8_zeros : MethodName := ⟨RX8, "zeros", "()I"⟩
abbrev cX8_doesSteps : ByteArray := prog_10_method_27_code
def yX8_doesSteps : MethodName := ⟨RX8, "doesSteps", "(I)V"⟩
abbrev cX8_steps : ByteArray := prog_10_method_28_code
def yX8_steps : MethodName := ⟨RX8, "steps", "(I)I"⟩
abbrev cX8_takesAway : ByteArray := prog_10_method_29_code
def yX8_takesAway : MethodName := ⟨RX8, "takesAway", "(I)V"⟩
abbrev cX8_tables : ByteArray := prog_10_method_30_code
def yX8_tables : MethodName := ⟨RX8, "tables", "()V"⟩
abbrev cX8_roundFrom : ByteArray := prog_10_method_31_code
def yX8_roundFrom : MethodName := ⟨RX8, "roundFrom", "(I)I"⟩
abbrev cX8_behind : ByteArray := prog_10_method_32_code
def yX8_behind : MethodName := ⟨RX8, "behind", "(IJ)I"⟩
abbrev cX8_roundOf : ByteArray := prog_10_method_33_code
def yX8_roundOf : MethodName := ⟨RX8, "roundOf", "(I)I"⟩
abbrev cX8_after : ByteArray := prog_10_method_34_code
def yX8_after : MethodName := ⟨RX8, "after", "(IJ)I"⟩
abbrev cX8_sumNow : ByteArray := prog_10_method_35_code
def yX8_sumNow : MethodName := ⟨RX8, "sumNow", "()I"⟩
abbrev cX8_doesPair : ByteArray := prog_10_method_36_code
def yX8_doesPair : MethodName := ⟨RX8, "doesPair", "(II)Z"⟩
abbrev cX8_tailNow : ByteArray := prog_10_method_37_code
def yX8_tailNow : MethodName := ⟨RX8, "tailNow", "()I"⟩
abbrev cX8_dayOf : ByteArray := prog_10_method_38_code
def yX8_dayOf : MethodName := ⟨RX8, "dayOf", "(III)I"⟩
abbrev cX8_day : ByteArray := prog_10_method_39_code
def yX8_day : MethodName := ⟨RX8, "day", "(IIIII)I"⟩
abbrev cX8_now : ByteArray := prog_10_method_40_code
def yX8_now : MethodName := ⟨RX8, "now", "(I)I"⟩
abbrev cX8_from : ByteArray := prog_10_method_41_code
def yX8_from : MethodName := ⟨RX8, "from", "(I)I"⟩
abbrev cX8_rounds : ByteArray := prog_10_method_42_code
def yX8_rounds : MethodName := ⟨RX8, "rounds", "()I"⟩
abbrev cX8_rows : ByteArray := prog_10_method_43_code
def yX8_rows : MethodName := ⟨RX8, "rows", "(I)I"⟩
abbrev cX8_longest : ByteArray := prog_10_method_44_code
def yX8_longest : MethodName := ⟨RX8, "longest", "(I)I"⟩
abbrev cX8_meet : ByteArray := prog_10_method_45_code
def yX8_meet : MethodName := ⟨RX8, "meet", "(III)I"⟩
abbrev cX8_unlikeNow : ByteArray := prog_10_method_46_code
def yX8_unlikeNow : MethodName := ⟨RX8, "unlikeNow", "(I)I"⟩
abbrev cX8_few : ByteArray := prog_10_method_47_code
def yX8_few : MethodName := ⟨RX8, "few", "(I)I"⟩
abbrev cX8_reading : ByteArray := prog_10_method_48_code
def yX8_reading : MethodName := ⟨RX8, "reading", "(III)I"⟩
abbrev cX8_back : ByteArray := prog_10_method_49_code
def yX8_back : MethodName := ⟨RX8, "back", "(I)I"⟩
abbrev cX8_isSo : ByteArray := prog_10_method_50_code
def yX8_isSo : MethodName := ⟨RX8, "isSo", "(I)Z"⟩
abbrev cX8_areSo : ByteArray := prog_10_method_51_code
def yX8_areSo : MethodName := ⟨RX8, "areSo", "()Z"⟩
abbrev cX8_kinds : ByteArray := prog_10_method_52_code
def yX8_kinds : MethodName := ⟨RX8, "kinds", "(I)I"⟩
abbrev cX8_firsts : ByteArray := prog_10_method_53_code
def yX8_firsts : MethodName := ⟨RX8, "firsts", "(I)I"⟩
abbrev cX8_odds : ByteArray := prog_10_method_54_code
def yX8_odds : MethodName := ⟨RX8, "odds", "(IIII)J"⟩
abbrev cX8_noSheet : ByteArray := prog_10_method_55_code
def yX8_noSheet : MethodName := ⟨RX8, "noSheet", "(I)Z"⟩
abbrev cX8_sheet : ByteArray := prog_10_method_56_code
def yX8_sheet : MethodName := ⟨RX8, "sheet", "(III)I"⟩
abbrev cX8_lose : ByteArray := prog_10_method_57_code
def yX8_lose : MethodName := ⟨RX8, "lose", "(I)I"⟩
abbrev cX8_noCell : ByteArray := prog_10_method_58_code
def yX8_noCell : MethodName := ⟨RX8, "noCell", "(II)I"⟩
abbrev cX8_put : ByteArray := prog_10_method_59_code
def yX8_put : MethodName := ⟨RX8, "put", "(III)I"⟩
abbrev cX8_cell : ByteArray := prog_10_method_60_code
def yX8_cell : MethodName := ⟨RX8, "cell", "(III)J"⟩
abbrev cX8_isBeyond : ByteArray := prog_10_method_61_code
def yX8_isBeyond : MethodName := ⟨RX8, "isBeyond", "(IJI)Z"⟩
abbrev cX8_copy : ByteArray := prog_10_method_62_code
def yX8_copy : MethodName := ⟨RX8, "copy", "(IIIII)I"⟩
abbrev cX8_traced : ByteArray := prog_10_method_63_code
def yX8_traced : MethodName := ⟨RX8, "traced", "(I)V"⟩
abbrev cX8_tell : ByteArray := prog_10_method_64_code
def yX8_tell : MethodName := ⟨RX8, "tell", "(I)I"⟩
abbrev cX8_call : ByteArray := prog_10_method_65_code
def yX8_call : MethodName := ⟨RX8, "call", "(I)I"⟩
abbrev cX8_as : ByteArray := prog_10_method_66_code
def yX8_as : MethodName := ⟨RX8, "as", "(II)I"⟩
abbrev cX8_trace : ByteArray := prog_10_method_67_code
def yX8_trace : MethodName := ⟨RX8, "trace", "()I"⟩
abbrev cX8_fault : ByteArray := prog_10_method_68_code
def yX8_fault : MethodName := ⟨RX8, "fault", "()I"⟩
abbrev cX8_many : ByteArray := prog_10_method_69_code
def yX8_many : MethodName := ⟨RX8, "many", "(I)I"⟩
def RJ6 : String := "java/lang/Integer"
def TJ6 : u_T := fun k => match k with
  | _ => ("", "", "", false)
def tyJ6 : Nat → FieldType := fun k => match k with
  | _ => .int
abbrev wsJ60 : List Cond := u_ws RJ6 TJ6 0
theorem nmJ6 : ∀ a, a < 0 → ∀ b, b < 0 → a ≠ b → (TJ6 a).2.1 ≠ (TJ6 b).2.1 := by decide +kernel
theorem tyJ6_ok : ∀ k, k < 0 → parseFieldDescriptor (TJ6 k).2.2.1 = some (tyJ6 k) := by decide +kernel
abbrev cJ6_bitCount_0f7a4 : ByteArray := prog_11_method_49_code
def yJ6_bitCount_0f7a4 : MethodName := ⟨RJ6, "bitCount", "(I)I"⟩
def RJ9 : String := "java/lang/Math"
def TJ9 : u_T := fun k => match k with
  | _ => ("", "", "", false)
def tyJ9 : Nat → FieldType := fun k => match k with
  | _ => .int
abbrev wsJ90 : List Cond := u_ws RJ9 TJ9 0
theorem nmJ9 : ∀ a, a < 0 → ∀ b, b < 0 → a ≠ b → (TJ9 a).2.1 ≠ (TJ9 b).2.1 := by decide +kernel
theorem tyJ9_ok : ∀ k, k < 0 → parseFieldDescriptor (TJ9 k).2.2.1 = some (tyJ9 k) := by decide +kernel
abbrev cJ9_abs_0f7a4 : ByteArray := prog_12_method_59_code
def yJ9_abs_0f7a4 : MethodName := ⟨RJ9, "abs", "(I)I"⟩
abbrev cJ9_max_7cf53 : ByteArray := prog_12_method_65_code
def yJ9_max_7cf53 : MethodName := ⟨RJ9, "max", "(II)I"⟩
abbrev cJ9_min_7cf53 : ByteArray := prog_12_method_69_code
def yJ9_min_7cf53 : MethodName := ⟨RJ9, "min", "(II)I"⟩
def RJ10 : String := "java/lang/System"
def TJ10 : u_T := fun k => match k with
  | _ => ("", "", "", false)
def tyJ10 : Nat → FieldType := fun k => match k with
  | _ => .int
abbrev wsJ100 : List Cond := u_ws RJ10 TJ10 0
theorem nmJ10 : ∀ a, a < 0 → ∀ b, b < 0 → a ≠ b → (TJ10 a).2.1 ≠ (TJ10 b).2.1 := by decide +kernel
theorem tyJ10_ok : ∀ k, k < 0 → parseFieldDescriptor (TJ10 k).2.2.1 = some (tyJ10 k) := by decide +kernel
def RJ7 : String := "java/util/Arrays"
def TJ7 : u_T := fun k => match k with
  | _ => ("", "", "", false)
def tyJ7 : Nat → FieldType := fun k => match k with
  | _ => .int
abbrev wsJ70 : List Cond := u_ws RJ7 TJ7 0
theorem nmJ7 : ∀ a, a < 0 → ∀ b, b < 0 → a ≠ b → (TJ7 a).2.1 ≠ (TJ7 b).2.1 := by decide +kernel
theorem tyJ7_ok : ∀ k, k < 0 → parseFieldDescriptor (TJ7 k).2.2.1 = some (tyJ7 k) := by decide +kernel
abbrev cJ7_fill_53178 : ByteArray := prog_14_method_103_code
def yJ7_fill_53178 : MethodName := ⟨RJ7, "fill", "([II)V"⟩
def RL : String := "DifferRingsLaw"
abbrev cL_law : ByteArray := code
def yL_law : MethodName := ⟨RL, "law", "([I)Z"⟩
abbrev vwCl : List vw_C := [(RX0, TX0, 14), (RX1, TX1, 3), (RX2, TX2, 4), (RX3, TX3, 5), (RX4, TX4, 3), (RX5, TX5, 5), (RX7, TX7, 10), (RX8, TX8, 32)]
abbrev am_M : Type := MethodName × ByteArray × Nat × Option FieldType × Nat × Option (Nat × (Int → Int))
abbrev mX0_init : am_M := (yX0_init, cX0_init, 1, none, 2, none)
abbrev mX0_forget : am_M := (yX0_forget, cX0_forget, 1, none, 0, none)
abbrev mX0_workOut : am_M := (yX0_workOut, cX0_workOut, 3, none, 5, none)
abbrev mX0_makeRoom : am_M := (yX0_makeRoom, cX0_makeRoom, 1, none, 0, none)
abbrev mX0_findNext : am_M := (yX0_findNext, cX0_findNext, 2, none, 4, none)
abbrev mX0_orderThoseThatDoNotComeBack : am_M := (yX0_orderThoseThatDoNotComeBack, cX0_orderThoseThatDoNotComeBack, 3, none, 0, none)
abbrev mX0_findRounds : am_M := (yX0_findRounds, cX0_findRounds, 2, none, 1, none)
abbrev mX0_markRound : am_M := (yX0_markRound, cX0_markRound, 4, none, 0, none)
abbrev mX0_findTails : am_M := (yX0_findTails, cX0_findTails, 3, none, 0, none)
abbrev mX0_sumUp : am_M := (yX0_sumUp, cX0_sumUp, 2, none, 2, none)
abbrev mX0_isRow : am_M := (yX0_isRow, cX0_isRow, 2, (some .boolean), 0, none)
abbrev mX0_nextOf : am_M := (yX0_nextOf, cX0_nextOf, 2, (some .int), 1, none)
abbrev mX0_tailOf : am_M := (yX0_tailOf, cX0_tailOf, 2, (some .int), 1, none)
abbrev mX0_roundOf : am_M := (yX0_roundOf, cX0_roundOf, 5, (some .int), 2, none)
abbrev mX0_goesOut : am_M := (yX0_goesOut, cX0_goesOut, 2, (some .boolean), 1, none)
abbrev mX0_behind : am_M := (yX0_behind, cX0_behind, 11, (some .int), 3, none)
abbrev mX0_comersOf : am_M := (yX0_comersOf, cX0_comersOf, 4, (some .int), 0, none)
abbrev mX0_firstComerOf : am_M := (yX0_firstComerOf, cX0_firstComerOf, 3, (some .int), 0, none)
abbrev mX0_meeting : am_M := (yX0_meeting, cX0_meeting, 6, (some .int), 2, none)
abbrev mX0_leastSetToGoOut : am_M := (yX0_leastSetToGoOut, cX0_leastSetToGoOut, 6, (some .int), 2, none)
abbrev mX0_unlikePlaces : am_M := (yX0_unlikePlaces, cX0_unlikePlaces, 7, (some .int), 0, none)
abbrev mX0_numberIn : am_M := (yX0_numberIn, cX0_numberIn, 5, (some .int), 0, none)
abbrev mX1_init : am_M := (yX1_init, cX1_init, 1, none, 1, none)
abbrev mX1_areActs : am_M := (yX1_areActs, cX1_areActs, 6, (some .boolean), 1, none)
abbrev mX1_isAct : am_M := (yX1_isAct, cX1_isAct, 2, (some .boolean), 0, none)
abbrev mX1_play : am_M := (yX1_play, cX1_play, 6, none, 5, none)
abbrev mX1_canDo : am_M := (yX1_canDo, cX1_canDo, 4, (some .boolean), 4, none)
abbrev mX2_init : am_M := (yX2_init, cX2_init, 1, none, 1, none)
abbrev mX2_keep : am_M := (yX2_keep, cX2_keep, 4, (some .int), 0, none)
abbrev mX2_areSo : am_M := (yX2_areSo, cX2_areSo, 4, (some .boolean), 4, none)
abbrev mX2_lastTime : am_M := (yX2_lastTime, cX2_lastTime, 3, (some .int), 1, none)
abbrev mX2_areSoAt : am_M := (yX2_areSoAt, cX2_areSoAt, 4, (some .boolean), 0, none)
abbrev mX3_init : am_M := (yX3_init, cX3_init, 1, none, 1, none)
abbrev mX3_isNone : am_M := (yX3_isNone, cX3_isNone, 1, (some .boolean), 0, none)
abbrev mX3_has : am_M := (yX3_has, cX3_has, 2, (some .boolean), 0, none)
abbrev mX3_isNumber : am_M := (yX3_isNumber, cX3_isNumber, 2, (some .boolean), 0, none)
abbrev mX3_takeAll : am_M := (yX3_takeAll, cX3_takeAll, 2, none, 2, none)
abbrev mX3_takeKinds : am_M := (yX3_takeKinds, cX3_takeKinds, 2, none, 1, none)
abbrev mX3_takeRow : am_M := (yX3_takeRow, cX3_takeRow, 5, (some .boolean), 1, none)
abbrev mX3_takeFirstRow : am_M := (yX3_takeFirstRow, cX3_takeFirstRow, 1, none, 1, none)
abbrev mX3_takeNextRow : am_M := (yX3_takeNextRow, cX3_takeNextRow, 2, none, 0, none)
abbrev mX3_stepped : am_M := (yX3_stepped, cX3_stepped, 4, (some .int), 2, none)
abbrev mX3_howFar : am_M := (yX3_howFar, cX3_howFar, 4, (some .int), 1, none)
abbrev mX3_go : am_M := (yX3_go, cX3_go, 4, none, 3, none)
abbrev mX3_zeros : am_M := (yX3_zeros, cX3_zeros, 3, (some .int), 0, none)
abbrev mX3_isOut : am_M := (yX3_isOut, cX3_isOut, 1, (some .boolean), 1, none)
abbrev mX3_total : am_M := (yX3_total, cX3_total, 3, (some .int), 0, none)
abbrev mX3_code : am_M := (yX3_code, cX3_code, 3, (some .int), 0, none)
abbrev mX3_steppedCode : am_M := (yX3_steppedCode, cX3_steppedCode, 3, (some .int), 3, none)
abbrev mX4_init : am_M := (yX4_init, cX4_init, 1, none, 1, none)
abbrev mX4_hasNothing : am_M := (yX4_hasNothing, cX4_hasNothing, 1, (some .boolean), 0, none)
abbrev mX4_renew : am_M := (yX4_renew, cX4_renew, 3, none, 1, none)
abbrev mX4_drop : am_M := (yX4_drop, cX4_drop, 1, none, 0, none)
abbrev mX4_faultAs : am_M := (yX4_faultAs, cX4_faultAs, 4, (some .int), 2, none)
abbrev mX4_faultOf : am_M := (yX4_faultOf, cX4_faultOf, 3, (some .int), 1, none)
abbrev mX4_faultOfCopy : am_M := (yX4_faultOfCopy, cX4_faultOfCopy, 5, (some .int), 1, none)
abbrev mX4_spans : am_M := (yX4_spans, cX4_spans, 3, (some .boolean), 0, none)
abbrev mX4_at : am_M := (yX4_at, cX4_at, 2, (some .int), 0, none)
abbrev mX4_change : am_M := (yX4_change, cX4_change, 3, none, 1, none)
abbrev mX4_cut : am_M := (yX4_cut, cX4_cut, 2, (some .int), 0, none)
abbrev mX5_init : am_M := (yX5_init, cX5_init, 1, none, 1, none)
abbrev mX5_forget : am_M := (yX5_forget, cX5_forget, 1, none, 0, none)
abbrev mX5_goTo : am_M := (yX5_goTo, cX5_goTo, 4, none, 3, none)
abbrev mX5_begin : am_M := (yX5_begin, cX5_begin, 3, none, 0, none)
abbrev mX5_stepAll : am_M := (yX5_stepAll, cX5_stepAll, 6, none, 2, none)
abbrev mX5_howMany : am_M := (yX5_howMany, cX5_howMany, 6, (some .int), 1, none)
abbrev mX6_firstFault : am_M := (yX6_firstFault, cX6_firstFault, 6, (some .int), 2, none)
abbrev mX6_goesOn : am_M := (yX6_goesOn, cX6_goesOn, 3, (some .boolean), 1, none)
abbrev mX6_kindOf : am_M := (yX6_kindOf, cX6_kindOf, 1, (some .int), 0, none)
abbrev mX6_take : am_M := (yX6_take, cX6_take, 6, none, 1, none)
abbrev mX7_init : am_M := (yX7_init, cX7_init, 2, none, 3, none)
abbrev mX7_ring : am_M := (yX7_ring, cX7_ring, 7, (some .int), 3, none)
abbrev mX7_ofPlace : am_M := (yX7_ofPlace, cX7_ofPlace, 3, (some .int), 3, none)
abbrev mX7_write : am_M := (yX7_write, cX7_write, 4, (some .int), 1, none)
abbrev mX7_steps : am_M := (yX7_steps, cX7_steps, 2, (some .int), 4, none)
abbrev mX7_after : am_M := (yX7_after, cX7_after, 4, (some .int), 6, none)
abbrev mX7_day : am_M := (yX7_day, cX7_day, 7, (some .int), 7, none)
abbrev mX7_ofDay : am_M := (yX7_ofDay, cX7_ofDay, 3, (some .int), 6, none)
abbrev mX7_now : am_M := (yX7_now, cX7_now, 3, (some .int), 6, none)
abbrev mX7_from : am_M := (yX7_from, cX7_from, 3, (some .int), 6, none)
abbrev mX7_rows : am_M := (yX7_rows, cX7_rows, 2, (some .int), 6, none)
abbrev mX7_longest : am_M := (yX7_longest, cX7_longest, 2, (some .int), 6, none)
abbrev mX7_meet : am_M := (yX7_meet, cX7_meet, 5, (some .int), 6, none)
abbrev mX7_few : am_M := (yX7_few, cX7_few, 3, (some .int), 6, none)
abbrev mX7_reading : am_M := (yX7_reading, cX7_reading, 4, (some .int), 1, none)
abbrev mX7_back : am_M := (yX7_back, cX7_back, 2, (some .int), 0, none)
abbrev mX7_kinds : am_M := (yX7_kinds, cX7_kinds, 4, (some .int), 5, none)
abbrev mX7_firsts : am_M := (yX7_firsts, cX7_firsts, 4, (some .int), 5, none)
abbrev mX7_odds : am_M := (yX7_odds, cX7_odds, 7, (some .long), 6, none)
abbrev mX7_sheet : am_M := (yX7_sheet, cX7_sheet, 4, (some .int), 2, none)
abbrev mX7_lose : am_M := (yX7_lose, cX7_lose, 3, (some .int), 1, none)
abbrev mX7_put : am_M := (yX7_put, cX7_put, 4, (some .int), 2, none)
abbrev mX7_cell : am_M := (yX7_cell, cX7_cell, 4, (some .long), 3, none)
abbrev mX7_copy : am_M := (yX7_copy, cX7_copy, 8, (some .int), 2, none)
abbrev mX7_tell : am_M := (yX7_tell, cX7_tell, 2, (some .int), 4, none)
abbrev mX7_tellPlain : am_M := (yX7_tellPlain, cX7_tellPlain, 2, (some .int), 1, none)
abbrev mX7_tellFar : am_M := (yX7_tellFar, cX7_tellFar, 2, (some .int), 2, none)
abbrev mX7_tellMixed : am_M := (yX7_tellMixed, cX7_tellMixed, 3, (some .int), 3, none)
abbrev mX7_call : am_M := (yX7_call, cX7_call, 2, (some .int), 1, none)
abbrev mX7_as : am_M := (yX7_as, cX7_as, 3, (some .int), 1, none)
abbrev mX7_trace : am_M := (yX7_trace, cX7_trace, 1, (some .int), 0, none)
abbrev mX7_fault : am_M := (yX7_fault, cX7_fault, 1, (some .int), 0, none)
abbrev mX7_many : am_M := (yX7_many, cX7_many, 2, (some .int), 1, none)
abbrev mX7_leave : am_M := (yX7_leave, cX7_leave, 2, none, 0, none)
abbrev mX7_answerOfFault : am_M := (yX7_answerOfFault, cX7_answerOfFault, 1, (some .int), 0, none)
abbrev mX7_isSheet : am_M := (yX7_isSheet, cX7_isSheet, 1, (some .boolean), 0, none)
abbrev mX7_isLane : am_M := (yX7_isLane, cX7_isLane, 1, (some .boolean), 0, none)
abbrev mX7_isOfDay : am_M := (yX7_isOfDay, cX7_isOfDay, 1, (some .boolean), 0, none)
abbrev mX7_isReadable : am_M := (yX7_isReadable, cX7_isReadable, 2, (some .boolean), 0, none)
abbrev mX7_commonDivisor : am_M := (yX7_commonDivisor, cX7_commonDivisor, 6, (some .int), 0, none)
abbrev mX8_init : am_M := (yX8_init, cX8_init, 2, none, 1, none)
abbrev mX8_in : am_M := (yX8_in, cX8_in, 6, (some .boolean), 0, none)
abbrev mX8_lost : am_M := (yX8_lost, cX8_lost, 0, (some .long), 0, none)
abbrev mX8_bits : am_M := (yX8_bits, cX8_bits, 3, (some .int), 0, none)
abbrev mX8_share : am_M := (yX8_share, cX8_share, 11, (some .long), 0, none)
abbrev mX8_refused : am_M := (yX8_refused, cX8_refused, 2, (some .int), 0, none)
abbrev mX8_failed : am_M := (yX8_failed, cX8_failed, 2, (some .int), 0, none)
abbrev mX8_failedLong : am_M := (yX8_failedLong, cX8_failedLong, 2, (some .long), 1, none)
abbrev mX8_noPlace : am_M := (yX8_noPlace, cX8_noPlace, 2, (some .boolean), 1, none)
abbrev mX8_codeAt : am_M := (yX8_codeAt, cX8_codeAt, 3, (some .int), 0, none)
abbrev mX8_readsPlace : am_M := (yX8_readsPlace, cX8_readsPlace, 5, (some .boolean), 1, none)
abbrev mX8_readsRing : am_M := (yX8_readsRing, cX8_readsRing, 4, (some .boolean), 2, none)
abbrev mX8_cellsBarred : am_M := (yX8_cellsBarred, cX8_cellsBarred, 6, (some .int), 1, none)
abbrev mX8_ring : am_M := (yX8_ring, cX8_ring, 7, (some .int), 3, none)
abbrev mX8_apart : am_M := (yX8_apart, cX8_apart, 2, (some .int), 0, none)
abbrev mX8_becomes : am_M := (yX8_becomes, cX8_becomes, 4, (some .int), 1, none)
abbrev mX8_stepsOnce : am_M := (yX8_stepsOnce, cX8_stepsOnce, 2, none, 2, none)
abbrev mX8_takesNow : am_M := (yX8_takesNow, cX8_takesNow, 2, none, 0, none)
abbrev mX8_takesRow : am_M := (yX8_takesRow, cX8_takesRow, 4, none, 0, none)
abbrev mX8_rowAt : am_M := (yX8_rowAt, cX8_rowAt, 3, (some .int), 0, none)
abbrev mX8_rowNow : am_M := (yX8_rowNow, cX8_rowNow, 1, (some .int), 1, none)
abbrev mX8_allRows : am_M := (yX8_allRows, cX8_allRows, 3, (some .int), 0, none)
abbrev mX8_ofPlace : am_M := (yX8_ofPlace, cX8_ofPlace, 3, (some .int), 2, none)
abbrev mX8_isNumber : am_M := (yX8_isNumber, cX8_isNumber, 2, (some .boolean), 1, none)
abbrev mX8_write : am_M := (yX8_write, cX8_write, 4, (some .int), 2, none)
abbrev mX8_zeros : am_M := (yX8_zeros, cX8_zeros, 3, (some .int), 0, none)
abbrev mX8_doesSteps : am_M := (yX8_doesSteps, cX8_doesSteps, 3, none, 3, none)
abbrev mX8_steps : am_M := (yX8_steps, cX8_steps, 2, (some .int), 4, none)
abbrev mX8_takesAway : am_M := (yX8_takesAway, cX8_takesAway, 2, none, 0, none)
abbrev mX8_tables : am_M := (yX8_tables, cX8_tables, 4, none, 3, none)
abbrev mX8_roundFrom : am_M := (yX8_roundFrom, cX8_roundFrom, 4, (some .int), 0, none)
abbrev mX8_behind : am_M := (yX8_behind, cX8_behind, 7, (some .int), 0, none)
abbrev mX8_roundOf : am_M := (yX8_roundOf, cX8_roundOf, 2, (some .int), 1, none)
abbrev mX8_after : am_M := (yX8_after, cX8_after, 7, (some .int), 4, none)
abbrev mX8_sumNow : am_M := (yX8_sumNow, cX8_sumNow, 3, (some .int), 0, none)
abbrev mX8_doesPair : am_M := (yX8_doesPair, cX8_doesPair, 3, (some .boolean), 4, none)
abbrev mX8_tailNow : am_M := (yX8_tailNow, cX8_tailNow, 2, (some .int), 4, none)
abbrev mX8_dayOf : am_M := (yX8_dayOf, cX8_dayOf, 6, (some .int), 5, none)
abbrev mX8_day : am_M := (yX8_day, cX8_day, 11, (some .int), 6, none)
abbrev mX8_now : am_M := (yX8_now, cX8_now, 3, (some .int), 4, none)
abbrev mX8_from : am_M := (yX8_from, cX8_from, 6, (some .int), 4, none)
abbrev mX8_rounds : am_M := (yX8_rounds, cX8_rounds, 6, (some .int), 1, none)
abbrev mX8_rows : am_M := (yX8_rows, cX8_rows, 6, (some .int), 4, none)
abbrev mX8_longest : am_M := (yX8_longest, cX8_longest, 4, (some .int), 4, none)
abbrev mX8_meet : am_M := (yX8_meet, cX8_meet, 8, (some .int), 4, none)
abbrev mX8_unlikeNow : am_M := (yX8_unlikeNow, cX8_unlikeNow, 4, (some .int), 1, none)
abbrev mX8_few : am_M := (yX8_few, cX8_few, 6, (some .int), 4, none)
abbrev mX8_reading : am_M := (yX8_reading, cX8_reading, 4, (some .int), 2, none)
abbrev mX8_back : am_M := (yX8_back, cX8_back, 2, (some .int), 1, none)
abbrev mX8_isSo : am_M := (yX8_isSo, cX8_isSo, 3, (some .boolean), 3, none)
abbrev mX8_areSo : am_M := (yX8_areSo, cX8_areSo, 3, (some .boolean), 4, none)
abbrev mX8_kinds : am_M := (yX8_kinds, cX8_kinds, 5, (some .int), 5, none)
abbrev mX8_firsts : am_M := (yX8_firsts, cX8_firsts, 5, (some .int), 5, none)
abbrev mX8_odds : am_M := (yX8_odds, cX8_odds, 8, (some .long), 4, none)
abbrev mX8_noSheet : am_M := (yX8_noSheet, cX8_noSheet, 1, (some .boolean), 1, none)
abbrev mX8_sheet : am_M := (yX8_sheet, cX8_sheet, 5, (some .int), 2, none)
abbrev mX8_lose : am_M := (yX8_lose, cX8_lose, 3, (some .int), 2, none)
abbrev mX8_noCell : am_M := (yX8_noCell, cX8_noCell, 3, (some .int), 1, none)
abbrev mX8_put : am_M := (yX8_put, cX8_put, 4, (some .int), 2, none)
abbrev mX8_cell : am_M := (yX8_cell, cX8_cell, 4, (some .long), 2, none)
abbrev mX8_isBeyond : am_M := (yX8_isBeyond, cX8_isBeyond, 4, (some .boolean), 0, none)
abbrev mX8_copy : am_M := (yX8_copy, cX8_copy, 7, (some .int), 2, none)
abbrev mX8_traced : am_M := (yX8_traced, cX8_traced, 2, none, 0, none)
abbrev mX8_tell : am_M := (yX8_tell, cX8_tell, 4, (some .int), 2, none)
abbrev mX8_call : am_M := (yX8_call, cX8_call, 2, (some .int), 2, none)
abbrev mX8_as : am_M := (yX8_as, cX8_as, 3, (some .int), 2, none)
abbrev mX8_trace : am_M := (yX8_trace, cX8_trace, 1, (some .int), 0, none)
abbrev mX8_fault : am_M := (yX8_fault, cX8_fault, 1, (some .int), 0, none)
abbrev mX8_many : am_M := (yX8_many, cX8_many, 2, (some .int), 1, none)
abbrev mJ6_bitCount_0f7a4 : am_M := (yJ6_bitCount_0f7a4, cJ6_bitCount_0f7a4, 1, (some .int), 0, none)
abbrev mJ9_abs_0f7a4 : am_M := (yJ9_abs_0f7a4, cJ9_abs_0f7a4, 1, (some .int), 0, none)
abbrev mJ9_max_7cf53 : am_M := (yJ9_max_7cf53, cJ9_max_7cf53, 2, (some .int), 0, none)
abbrev mJ9_min_7cf53 : am_M := (yJ9_min_7cf53, cJ9_min_7cf53, 2, (some .int), 0, none)
abbrev mJ7_fill_53178 : am_M := (yJ7_fill_53178, cJ7_fill_53178, 4, none, 0, none)
abbrev mL_law (L : Nat) (xs : Int → Int) : am_M := (yL_law, cL_law, 4, some .boolean, 10, some (L, xs))
def am_nest : List Cond := [.methodLinkNest RX7 17 yX4_init "DifferRings", .methodLinkNest RX7 20 yX3_init "DifferRings", .methodLinkNest RX7 30 yX0_init "DifferRings", .methodLinkNest RX0 11 yX3_init "DifferRings", .methodLinkNest RX7 37 yX5_init "DifferRings", .methodLinkNest RX7 44 yX2_init "DifferRings", .methodLinkNest RX7 51 yX1_init "DifferRings"]
end
section
theorem dX0_init_0 : decode cX0_init 0 = .ok (.aload_n 0, 1) := by decide +kernel
theorem dX0_init_1 : decode cX0_init 1 = .ok (.invokespecial 3, 3) := by decide +kernel
theorem dX0_init_4 : decode cX0_init 4 = .ok (.aload_n 0, 1) := by decide +kernel
theorem dX0_init_5 : decode cX0_init 5 = .ok (.new 9, 3) := by decide +kernel
theorem dX0_init_8 : decode cX0_init 8 = .ok (.dup, 1) := by decide +kernel
theorem dX0_init_9 : decode cX0_init 9 = .ok (.invokespecial 11, 3) := by decide +kernel
theorem dX0_init_12 : decode cX0_init 12 = .ok (.putfield 12, 3) := by decide +kernel
theorem dX0_init_15 : decode cX0_init 15 = .ok (.aload_n 0, 1) := by decide +kernel
theorem dX0_init_16 : decode cX0_init 16 = .ok (.iconst 0, 1) := by decide +kernel
theorem dX0_init_17 : decode cX0_init 17 = .ok (.newarray .int, 2) := by decide +kernel
theorem dX0_init_19 : decode cX0_init 19 = .ok (.putfield 18, 3) := by decide +kernel
theorem dX0_init_22 : decode cX0_init 22 = .ok (.aload_n 0, 1) := by decide +kernel
theorem dX0_init_23 : decode cX0_init 23 = .ok (.iconst 0, 1) := by decide +kernel
theorem dX0_init_24 : decode cX0_init 24 = .ok (.newarray .int, 2) := by decide +kernel
theorem dX0_init_26 : decode cX0_init 26 = .ok (.putfield 22, 3) := by decide +kernel
theorem dX0_init_29 : decode cX0_init 29 = .ok (.aload_n 0, 1) := by decide +kernel
theorem dX0_init_30 : decode cX0_init 30 = .ok (.iconst 0, 1) := by decide +kernel
theorem dX0_init_31 : decode cX0_init 31 = .ok (.newarray .int, 2) := by decide +kernel
theorem dX0_init_33 : decode cX0_init 33 = .ok (.putfield 25, 3) := by decide +kernel
theorem dX0_init_36 : decode cX0_init 36 = .ok (.aload_n 0, 1) := by decide +kernel
theorem dX0_init_37 : decode cX0_init 37 = .ok (.iconst 0, 1) := by decide +kernel
theorem dX0_init_38 : decode cX0_init 38 = .ok (.newarray .int, 2) := by decide +kernel
theorem dX0_init_40 : decode cX0_init 40 = .ok (.putfield 28, 3) := by decide +kernel
theorem dX0_init_43 : decode cX0_init 43 = .ok (.aload_n 0, 1) := by decide +kernel
theorem dX0_init_44 : decode cX0_init 44 = .ok (.iconst 0, 1) := by decide +kernel
theorem dX0_init_45 : decode cX0_init 45 = .ok (.newarray .int, 2) := by decide +kernel
theorem dX0_init_47 : decode cX0_init 47 = .ok (.putfield 31, 3) := by decide +kernel
theorem dX0_init_50 : decode cX0_init 50 = .ok (.aload_n 0, 1) := by decide +kernel
theorem dX0_init_51 : decode cX0_init 51 = .ok (.iconst 0, 1) := by decide +kernel
theorem dX0_init_52 : decode cX0_init 52 = .ok (.putfield 34, 3) := by decide +kernel
theorem dX0_init_55 : decode cX0_init 55 = .ok (.aload_n 0, 1) := by decide +kernel
theorem dX0_init_56 : decode cX0_init 56 = .ok (.iconst 0, 1) := by decide +kernel
theorem dX0_init_57 : decode cX0_init 57 = .ok (.putfield 38, 3) := by decide +kernel
theorem dX0_init_60 : decode cX0_init 60 = .ok (.aload_n 0, 1) := by decide +kernel
theorem dX0_init_61 : decode cX0_init 61 = .ok (.iconst 0, 1) := by decide +kernel
theorem dX0_init_62 : decode cX0_init 62 = .ok (.putfield 41, 3) := by decide +kernel
theorem dX0_init_65 : decode cX0_init 65 = .ok (.aload_n 0, 1) := by decide +kernel
theorem dX0_init_66 : decode cX0_init 66 = .ok (.iconst 0, 1) := by decide +kernel
theorem dX0_init_67 : decode cX0_init 67 = .ok (.putfield 44, 3) := by decide +kernel
theorem dX0_init_70 : decode cX0_init 70 = .ok (.aload_n 0, 1) := by decide +kernel
theorem dX0_init_71 : decode cX0_init 71 = .ok (.iconst 0, 1) := by decide +kernel
theorem dX0_init_72 : decode cX0_init 72 = .ok (.putfield 47, 3) := by decide +kernel
theorem dX0_init_75 : decode cX0_init 75 = .ok (.aload_n 0, 1) := by decide +kernel
theorem dX0_init_76 : decode cX0_init 76 = .ok (.iconst 0, 1) := by decide +kernel
theorem dX0_init_77 : decode cX0_init 77 = .ok (.putfield 50, 3) := by decide +kernel
theorem dX0_init_80 : decode cX0_init 80 = .ok (.aload_n 0, 1) := by decide +kernel
theorem dX0_init_81 : decode cX0_init 81 = .ok (.iconst 0, 1) := by decide +kernel
theorem dX0_init_82 : decode cX0_init 82 = .ok (.putfield 53, 3) := by decide +kernel
theorem dX0_init_85 : decode cX0_init 85 = .ok (.aload_n 0, 1) := by decide +kernel
theorem dX0_init_86 : decode cX0_init 86 = .ok (.iconst 0, 1) := by decide +kernel
theorem dX0_init_87 : decode cX0_init 87 = .ok (.putfield 56, 3) := by decide +kernel
theorem dX0_init_90 : decode cX0_init 90 = .ok (.return_, 1) := by decide +kernel
theorem dX0_forget_0 : decode cX0_forget 0 = .ok (.aload_n 0, 1) := by decide +kernel
theorem dX0_forget_1 : decode cX0_forget 1 = .ok (.iconst 0, 1) := by decide +kernel
theorem dX0_forget_2 : decode cX0_forget 2 = .ok (.putfield 38, 3) := by decide +kernel
theorem dX0_forget_5 : decode cX0_forget 5 = .ok (.return_, 1) := by decide +kernel
theorem dX0_workOut_0 : decode cX0_workOut 0 = .ok (.aload_n 0, 1) := by decide +kernel
theorem dX0_workOut_1 : decode cX0_workOut 1 = .ok (.getfield 38, 3) := by decide +kernel
theorem dX0_workOut_4 : decode cX0_workOut 4 = .ok (.ifCond .gt 10, 3) := by decide +kernel
theorem dX0_workOut_7 : decode cX0_workOut 7 = .ok (.aload_n 1, 1) := by decide +kernel
theorem dX0_workOut_8 : decode cX0_workOut 8 = .ok (.invokevirtual 59, 3) := by decide +kernel
theorem dX0_workOut_11 : decode cX0_workOut 11 = .ok (.ifCond .eq 4, 3) := by decide +kernel
theorem dX0_workOut_14 : decode cX0_workOut 14 = .ok (.return_, 1) := by decide +kernel
theorem dX0_workOut_15 : decode cX0_workOut 15 = .ok (.aload_n 0, 1) := by decide +kernel
theorem dX0_workOut_16 : decode cX0_workOut 16 = .ok (.getfield 12, 3) := by decide +kernel
theorem dX0_workOut_19 : decode cX0_workOut 19 = .ok (.aload_n 1, 1) := by decide +kernel
theorem dX0_workOut_20 : decode cX0_workOut 20 = .ok (.invokevirtual 63, 3) := by decide +kernel
theorem dX0_workOut_23 : decode cX0_workOut 23 = .ok (.aload_n 0, 1) := by decide +kernel
theorem dX0_workOut_24 : decode cX0_workOut 24 = .ok (.iconst 1, 1) := by decide +kernel
theorem dX0_workOut_25 : decode cX0_workOut 25 = .ok (.putfield 38, 3) := by decide +kernel
theorem dX0_workOut_28 : decode cX0_workOut 28 = .ok (.iconst 0, 1) := by decide +kernel
theorem dX0_workOut_29 : decode cX0_workOut 29 = .ok (.istore_n 2, 1) := by decide +kernel
theorem dX0_workOut_30 : decode cX0_workOut 30 = .ok (.iload_n 2, 1) := by decide +kernel
theorem dX0_workOut_31 : decode cX0_workOut 31 = .ok (.aload_n 1, 1) := by decide +kernel
theorem dX0_workOut_32 : decode cX0_workOut 32 = .ok (.getfield 67, 3) := by decide +kernel
theorem dX0_workOut_35 : decode cX0_workOut 35 = .ok (.if_icmp .ge 22, 3) := by decide +kernel
theorem dX0_workOut_38 : decode cX0_workOut 38 = .ok (.aload_n 0, 1) := by decide +kernel
theorem dX0_workOut_39 : decode cX0_workOut 39 = .ok (.dup, 1) := by decide +kernel
theorem dX0_workOut_40 : decode cX0_workOut 40 = .ok (.getfield 38, 3) := by decide +kernel
theorem dX0_workOut_43 : decode cX0_workOut 43 = .ok (.aload_n 1, 1) := by decide +kernel
theorem dX0_workOut_44 : decode cX0_workOut 44 = .ok (.getfield 70, 3) := by decide +kernel
theorem dX0_workOut_47 : decode cX0_workOut 47 = .ok (.imul, 1) := by decide +kernel
theorem dX0_workOut_48 : decode cX0_workOut 48 = .ok (.putfield 38, 3) := by decide +kernel
theorem dX0_workOut_51 : decode cX0_workOut 51 = .ok (.iinc 2 1, 3) := by decide +kernel
theorem dX0_workOut_54 : decode cX0_workOut 54 = .ok (.goto (-24), 3) := by decide +kernel
theorem dX0_workOut_57 : decode cX0_workOut 57 = .ok (.aload_n 0, 1) := by decide +kernel
theorem dX0_workOut_58 : decode cX0_workOut 58 = .ok (.invokevirtual 73, 3) := by decide +kernel
theorem dX0_workOut_61 : decode cX0_workOut 61 = .ok (.aload_n 0, 1) := by decide +kernel
theorem dX0_workOut_62 : decode cX0_workOut 62 = .ok (.invokevirtual 76, 3) := by decide +kernel
theorem dX0_workOut_65 : decode cX0_workOut 65 = .ok (.aload_n 0, 1) := by decide +kernel
theorem dX0_workOut_66 : decode cX0_workOut 66 = .ok (.invokevirtual 79, 3) := by decide +kernel
theorem dX0_workOut_69 : decode cX0_workOut 69 = .ok (.aload_n 0, 1) := by decide +kernel
theorem dX0_workOut_70 : decode cX0_workOut 70 = .ok (.invokevirtual 82, 3) := by decide +kernel
theorem dX0_workOut_73 : decode cX0_workOut 73 = .ok (.aload_n 0, 1) := by decide +kernel
theorem dX0_workOut_74 : decode cX0_workOut 74 = .ok (.invokevirtual 85, 3) := by decide +kernel
theorem dX0_workOut_77 : decode cX0_workOut 77 = .ok (.aload_n 0, 1) := by decide +kernel
theorem dX0_workOut_78 : decode cX0_workOut 78 = .ok (.invokevirtual 88, 3) := by decide +kernel
theorem dX0_workOut_81 : decode cX0_workOut 81 = .ok (.return_, 1) := by decide +kernel
theorem dX0_makeRoom_0 : decode cX0_makeRoom 0 = .ok (.aload_n 0, 1) := by decide +kernel
theorem dX0_makeRoom_1 : decode cX0_makeRoom 1 = .ok (.getfield 18, 3) := by decide +kernel
theorem dX0_makeRoom_4 : decode cX0_makeRoom 4 = .ok (.arraylength, 1) := by decide +kernel
theorem dX0_makeRoom_5 : decode cX0_makeRoom 5 = .ok (.aload_n 0, 1) := by decide +kernel
theorem dX0_makeRoom_6 : decode cX0_makeRoom 6 = .ok (.getfield 38, 3) := by decide +kernel
theorem dX0_makeRoom_9 : decode cX0_makeRoom 9 = .ok (.if_icmp .ge 53, 3) := by decide +kernel
theorem dX0_makeRoom_12 : decode cX0_makeRoom 12 = .ok (.aload_n 0, 1) := by decide +kernel
theorem dX0_makeRoom_13 : decode cX0_makeRoom 13 = .ok (.aload_n 0, 1) := by decide +kernel
theorem dX0_makeRoom_14 : decode cX0_makeRoom 14 = .ok (.getfield 38, 3) := by decide +kernel
theorem dX0_makeRoom_17 : decode cX0_makeRoom 17 = .ok (.newarray .int, 2) := by decide +kernel
theorem dX0_makeRoom_19 : decode cX0_makeRoom 19 = .ok (.putfield 18, 3) := by decide +kernel
theorem dX0_makeRoom_22 : decode cX0_makeRoom 22 = .ok (.aload_n 0, 1) := by decide +kernel
theorem dX0_makeRoom_23 : decode cX0_makeRoom 23 = .ok (.aload_n 0, 1) := by decide +kernel
theorem dX0_makeRoom_24 : decode cX0_makeRoom 24 = .ok (.getfield 38, 3) := by decide +kernel
theorem dX0_makeRoom_27 : decode cX0_makeRoom 27 = .ok (.newarray .int, 2) := by decide +kernel
theorem dX0_makeRoom_29 : decode cX0_makeRoom 29 = .ok (.putfield 22, 3) := by decide +kernel
theorem dX0_makeRoom_32 : decode cX0_makeRoom 32 = .ok (.aload_n 0, 1) := by decide +kernel
theorem dX0_makeRoom_33 : decode cX0_makeRoom 33 = .ok (.aload_n 0, 1) := by decide +kernel
theorem dX0_makeRoom_34 : decode cX0_makeRoom 34 = .ok (.getfield 38, 3) := by decide +kernel
theorem dX0_makeRoom_37 : decode cX0_makeRoom 37 = .ok (.newarray .int, 2) := by decide +kernel
theorem dX0_makeRoom_39 : decode cX0_makeRoom 39 = .ok (.putfield 25, 3) := by decide +kernel
theorem dX0_makeRoom_42 : decode cX0_makeRoom 42 = .ok (.aload_n 0, 1) := by decide +kernel
theorem dX0_makeRoom_43 : decode cX0_makeRoom 43 = .ok (.aload_n 0, 1) := by decide +kernel
theorem dX0_makeRoom_44 : decode cX0_makeRoom 44 = .ok (.getfield 38, 3) := by decide +kernel
theorem dX0_makeRoom_47 : decode cX0_makeRoom 47 = .ok (.newarray .int, 2) := by decide +kernel
theorem dX0_makeRoom_49 : decode cX0_makeRoom 49 = .ok (.putfield 28, 3) := by decide +kernel
theorem dX0_makeRoom_52 : decode cX0_makeRoom 52 = .ok (.aload_n 0, 1) := by decide +kernel
theorem dX0_makeRoom_53 : decode cX0_makeRoom 53 = .ok (.aload_n 0, 1) := by decide +kernel
theorem dX0_makeRoom_54 : decode cX0_makeRoom 54 = .ok (.getfield 38, 3) := by decide +kernel
theorem dX0_makeRoom_57 : decode cX0_makeRoom 57 = .ok (.newarray .int, 2) := by decide +kernel
theorem dX0_makeRoom_59 : decode cX0_makeRoom 59 = .ok (.putfield 31, 3) := by decide +kernel
theorem dX0_makeRoom_62 : decode cX0_makeRoom 62 = .ok (.return_, 1) := by decide +kernel
theorem dX0_findNext_0 : decode cX0_findNext 0 = .ok (.aload_n 0, 1) := by decide +kernel
theorem dX0_findNext_1 : decode cX0_findNext 1 = .ok (.getfield 22, 3) := by decide +kernel
theorem dX0_findNext_4 : decode cX0_findNext 4 = .ok (.iconst 0, 1) := by decide +kernel
theorem dX0_findNext_5 : decode cX0_findNext 5 = .ok (.invokestatic 91, 3) := by decide +kernel
theorem dX0_findNext_8 : decode cX0_findNext 8 = .ok (.aload_n 0, 1) := by decide +kernel
theorem dX0_findNext_9 : decode cX0_findNext 9 = .ok (.getfield 12, 3) := by decide +kernel
theorem dX0_findNext_12 : decode cX0_findNext 12 = .ok (.invokevirtual 97, 3) := by decide +kernel
theorem dX0_findNext_15 : decode cX0_findNext 15 = .ok (.iconst 0, 1) := by decide +kernel
theorem dX0_findNext_16 : decode cX0_findNext 16 = .ok (.istore_n 1, 1) := by decide +kernel
theorem dX0_findNext_17 : decode cX0_findNext 17 = .ok (.iload_n 1, 1) := by decide +kernel
theorem dX0_findNext_18 : decode cX0_findNext 18 = .ok (.aload_n 0, 1) := by decide +kernel
theorem dX0_findNext_19 : decode cX0_findNext 19 = .ok (.getfield 38, 3) := by decide +kernel
theorem dX0_findNext_22 : decode cX0_findNext 22 = .ok (.if_icmp .ge 44, 3) := by decide +kernel
theorem dX0_findNext_25 : decode cX0_findNext 25 = .ok (.aload_n 0, 1) := by decide +kernel
theorem dX0_findNext_26 : decode cX0_findNext 26 = .ok (.getfield 18, 3) := by decide +kernel
theorem dX0_findNext_29 : decode cX0_findNext 29 = .ok (.iload_n 1, 1) := by decide +kernel
theorem dX0_findNext_30 : decode cX0_findNext 30 = .ok (.aload_n 0, 1) := by decide +kernel
theorem dX0_findNext_31 : decode cX0_findNext 31 = .ok (.getfield 12, 3) := by decide +kernel
theorem dX0_findNext_34 : decode cX0_findNext 34 = .ok (.invokevirtual 100, 3) := by decide +kernel
theorem dX0_findNext_37 : decode cX0_findNext 37 = .ok (.iastore, 1) := by decide +kernel
theorem dX0_findNext_38 : decode cX0_findNext 38 = .ok (.aload_n 0, 1) := by decide +kernel
theorem dX0_findNext_39 : decode cX0_findNext 39 = .ok (.getfield 22, 3) := by decide +kernel
theorem dX0_findNext_42 : decode cX0_findNext 42 = .ok (.aload_n 0, 1) := by decide +kernel
theorem dX0_findNext_43 : decode cX0_findNext 43 = .ok (.getfield 18, 3) := by decide +kernel
theorem dX0_findNext_46 : decode cX0_findNext 46 = .ok (.iload_n 1, 1) := by decide +kernel
theorem dX0_findNext_47 : decode cX0_findNext 47 = .ok (.iaload, 1) := by decide +kernel
theorem dX0_findNext_48 : decode cX0_findNext 48 = .ok (.dup2, 1) := by decide +kernel
theorem dX0_findNext_49 : decode cX0_findNext 49 = .ok (.iaload, 1) := by decide +kernel
theorem dX0_findNext_50 : decode cX0_findNext 50 = .ok (.iconst 1, 1) := by decide +kernel
theorem dX0_findNext_51 : decode cX0_findNext 51 = .ok (.iadd, 1) := by decide +kernel
theorem dX0_findNext_52 : decode cX0_findNext 52 = .ok (.iastore, 1) := by decide +kernel
theorem dX0_findNext_53 : decode cX0_findNext 53 = .ok (.aload_n 0, 1) := by decide +kernel
theorem dX0_findNext_54 : decode cX0_findNext 54 = .ok (.getfield 12, 3) := by decide +kernel
theorem dX0_findNext_57 : decode cX0_findNext 57 = .ok (.invokevirtual 104, 3) := by decide +kernel
theorem dX0_findNext_60 : decode cX0_findNext 60 = .ok (.iinc 1 1, 3) := by decide +kernel
theorem dX0_findNext_63 : decode cX0_findNext 63 = .ok (.goto (-46), 3) := by decide +kernel
theorem dX0_findNext_66 : decode cX0_findNext 66 = .ok (.return_, 1) := by decide +kernel
theorem dX0_orderThoseThatDoNotComeBack_0 : decode cX0_orderThoseThatDoNotComeBack 0 = .ok (.aload_n 0, 1) := by decide +kernel
theorem dX0_orderThoseThatDoNotComeBack_1 : decode cX0_orderThoseThatDoNotComeBack 1 = .ok (.iconst 0, 1) := by decide +kernel
theorem dX0_orderThoseThatDoNotComeBack_2 : decode cX0_orderThoseThatDoNotComeBack 2 = .ok (.putfield 34, 3) := by decide +kernel
theorem dX0_orderThoseThatDoNotComeBack_5 : decode cX0_orderThoseThatDoNotComeBack 5 = .ok (.iconst 0, 1) := by decide +kernel
theorem dX0_orderThoseThatDoNotComeBack_6 : decode cX0_orderThoseThatDoNotComeBack 6 = .ok (.istore_n 1, 1) := by decide +kernel
theorem dX0_orderThoseThatDoNotComeBack_7 : decode cX0_orderThoseThatDoNotComeBack 7 = .ok (.iload_n 1, 1) := by decide +kernel
theorem dX0_orderThoseThatDoNotComeBack_8 : decode cX0_orderThoseThatDoNotComeBack 8 = .ok (.aload_n 0, 1) := by decide +kernel
theorem dX0_orderThoseThatDoNotComeBack_9 : decode cX0_orderThoseThatDoNotComeBack 9 = .ok (.getfield 38, 3) := by decide +kernel
theorem dX0_orderThoseThatDoNotComeBack_12 : decode cX0_orderThoseThatDoNotComeBack 12 = .ok (.if_icmp .ge 38, 3) := by decide +kernel
theorem dX0_orderThoseThatDoNotComeBack_15 : decode cX0_orderThoseThatDoNotComeBack 15 = .ok (.aload_n 0, 1) := by decide +kernel
theorem dX0_orderThoseThatDoNotComeBack_16 : decode cX0_orderThoseThatDoNotComeBack 16 = .ok (.getfield 22, 3) := by decide +kernel
theorem dX0_orderThoseThatDoNotComeBack_19 : decode cX0_orderThoseThatDoNotComeBack 19 = .ok (.iload_n 1, 1) := by decide +kernel
theorem dX0_orderThoseThatDoNotComeBack_20 : decode cX0_orderThoseThatDoNotComeBack 20 = .ok (.iaload, 1) := by decide +kernel
theorem dX0_orderThoseThatDoNotComeBack_21 : decode cX0_orderThoseThatDoNotComeBack 21 = .ok (.ifCond .ne 23, 3) := by decide +kernel
theorem dX0_orderThoseThatDoNotComeBack_24 : decode cX0_orderThoseThatDoNotComeBack 24 = .ok (.aload_n 0, 1) := by decide +kernel
theorem dX0_orderThoseThatDoNotComeBack_25 : decode cX0_orderThoseThatDoNotComeBack 25 = .ok (.getfield 25, 3) := by decide +kernel
theorem dX0_orderThoseThatDoNotComeBack_28 : decode cX0_orderThoseThatDoNotComeBack 28 = .ok (.aload_n 0, 1) := by decide +kernel
theorem dX0_orderThoseThatDoNotComeBack_29 : decode cX0_orderThoseThatDoNotComeBack 29 = .ok (.getfield 34, 3) := by decide +kernel
theorem dX0_orderThoseThatDoNotComeBack_32 : decode cX0_orderThoseThatDoNotComeBack 32 = .ok (.iload_n 1, 1) := by decide +kernel
theorem dX0_orderThoseThatDoNotComeBack_33 : decode cX0_orderThoseThatDoNotComeBack 33 = .ok (.iastore, 1) := by decide +kernel
theorem dX0_orderThoseThatDoNotComeBack_34 : decode cX0_orderThoseThatDoNotComeBack 34 = .ok (.aload_n 0, 1) := by decide +kernel
theorem dX0_orderThoseThatDoNotComeBack_35 : decode cX0_orderThoseThatDoNotComeBack 35 = .ok (.dup, 1) := by decide +kernel
theorem dX0_orderThoseThatDoNotComeBack_36 : decode cX0_orderThoseThatDoNotComeBack 36 = .ok (.getfield 34, 3) := by decide +kernel
theorem dX0_orderThoseThatDoNotComeBack_39 : decode cX0_orderThoseThatDoNotComeBack 39 = .ok (.iconst 1, 1) := by decide +kernel
theorem dX0_orderThoseThatDoNotComeBack_40 : decode cX0_orderThoseThatDoNotComeBack 40 = .ok (.iadd, 1) := by decide +kernel
theorem dX0_orderThoseThatDoNotComeBack_41 : decode cX0_orderThoseThatDoNotComeBack 41 = .ok (.putfield 34, 3) := by decide +kernel
theorem dX0_orderThoseThatDoNotComeBack_44 : decode cX0_orderThoseThatDoNotComeBack 44 = .ok (.iinc 1 1, 3) := by decide +kernel
theorem dX0_orderThoseThatDoNotComeBack_47 : decode cX0_orderThoseThatDoNotComeBack 47 = .ok (.goto (-40), 3) := by decide +kernel
theorem dX0_orderThoseThatDoNotComeBack_50 : decode cX0_orderThoseThatDoNotComeBack 50 = .ok (.aload_n 0, 1) := by decide +kernel
theorem dX0_orderThoseThatDoNotComeBack_51 : decode cX0_orderThoseThatDoNotComeBack 51 = .ok (.aload_n 0, 1) := by decide +kernel
theorem dX0_orderThoseThatDoNotComeBack_52 : decode cX0_orderThoseThatDoNotComeBack 52 = .ok (.getfield 34, 3) := by decide +kernel
theorem dX0_orderThoseThatDoNotComeBack_55 : decode cX0_orderThoseThatDoNotComeBack 55 = .ok (.putfield 44, 3) := by decide +kernel
theorem dX0_orderThoseThatDoNotComeBack_58 : decode cX0_orderThoseThatDoNotComeBack 58 = .ok (.iconst 0, 1) := by decide +kernel
theorem dX0_orderThoseThatDoNotComeBack_59 : decode cX0_orderThoseThatDoNotComeBack 59 = .ok (.istore_n 1, 1) := by decide +kernel
theorem dX0_orderThoseThatDoNotComeBack_60 : decode cX0_orderThoseThatDoNotComeBack 60 = .ok (.iload_n 1, 1) := by decide +kernel
theorem dX0_orderThoseThatDoNotComeBack_61 : decode cX0_orderThoseThatDoNotComeBack 61 = .ok (.aload_n 0, 1) := by decide +kernel
theorem dX0_orderThoseThatDoNotComeBack_62 : decode cX0_orderThoseThatDoNotComeBack 62 = .ok (.getfield 34, 3) := by decide +kernel
theorem dX0_orderThoseThatDoNotComeBack_65 : decode cX0_orderThoseThatDoNotComeBack 65 = .ok (.if_icmp .ge 68, 3) := by decide +kernel
theorem dX0_orderThoseThatDoNotComeBack_68 : decode cX0_orderThoseThatDoNotComeBack 68 = .ok (.iload_n 1, 1) := by decide +kernel
theorem dX0_orderThoseThatDoNotComeBack_69 : decode cX0_orderThoseThatDoNotComeBack 69 = .ok (.aload_n 0, 1) := by decide +kernel
theorem dX0_orderThoseThatDoNotComeBack_70 : decode cX0_orderThoseThatDoNotComeBack 70 = .ok (.getfield 38, 3) := by decide +kernel
theorem dX0_orderThoseThatDoNotComeBack_73 : decode cX0_orderThoseThatDoNotComeBack 73 = .ok (.if_icmp .ge 60, 3) := by decide +kernel
theorem dX0_orderThoseThatDoNotComeBack_76 : decode cX0_orderThoseThatDoNotComeBack 76 = .ok (.aload_n 0, 1) := by decide +kernel
theorem dX0_orderThoseThatDoNotComeBack_77 : decode cX0_orderThoseThatDoNotComeBack 77 = .ok (.getfield 18, 3) := by decide +kernel
theorem dX0_orderThoseThatDoNotComeBack_80 : decode cX0_orderThoseThatDoNotComeBack 80 = .ok (.aload_n 0, 1) := by decide +kernel
theorem dX0_orderThoseThatDoNotComeBack_81 : decode cX0_orderThoseThatDoNotComeBack 81 = .ok (.getfield 25, 3) := by decide +kernel
theorem dX0_orderThoseThatDoNotComeBack_84 : decode cX0_orderThoseThatDoNotComeBack 84 = .ok (.iload_n 1, 1) := by decide +kernel
theorem dX0_orderThoseThatDoNotComeBack_85 : decode cX0_orderThoseThatDoNotComeBack 85 = .ok (.iaload, 1) := by decide +kernel
theorem dX0_orderThoseThatDoNotComeBack_86 : decode cX0_orderThoseThatDoNotComeBack 86 = .ok (.iaload, 1) := by decide +kernel
theorem dX0_orderThoseThatDoNotComeBack_87 : decode cX0_orderThoseThatDoNotComeBack 87 = .ok (.istore_n 2, 1) := by decide +kernel
theorem dX0_orderThoseThatDoNotComeBack_88 : decode cX0_orderThoseThatDoNotComeBack 88 = .ok (.aload_n 0, 1) := by decide +kernel
theorem dX0_orderThoseThatDoNotComeBack_89 : decode cX0_orderThoseThatDoNotComeBack 89 = .ok (.getfield 22, 3) := by decide +kernel
theorem dX0_orderThoseThatDoNotComeBack_92 : decode cX0_orderThoseThatDoNotComeBack 92 = .ok (.iload_n 2, 1) := by decide +kernel
theorem dX0_orderThoseThatDoNotComeBack_93 : decode cX0_orderThoseThatDoNotComeBack 93 = .ok (.dup2, 1) := by decide +kernel
theorem dX0_orderThoseThatDoNotComeBack_94 : decode cX0_orderThoseThatDoNotComeBack 94 = .ok (.iaload, 1) := by decide +kernel
theorem dX0_orderThoseThatDoNotComeBack_95 : decode cX0_orderThoseThatDoNotComeBack 95 = .ok (.iconst 1, 1) := by decide +kernel
theorem dX0_orderThoseThatDoNotComeBack_96 : decode cX0_orderThoseThatDoNotComeBack 96 = .ok (.isub, 1) := by decide +kernel
theorem dX0_orderThoseThatDoNotComeBack_97 : decode cX0_orderThoseThatDoNotComeBack 97 = .ok (.iastore, 1) := by decide +kernel
theorem dX0_orderThoseThatDoNotComeBack_98 : decode cX0_orderThoseThatDoNotComeBack 98 = .ok (.aload_n 0, 1) := by decide +kernel
theorem dX0_orderThoseThatDoNotComeBack_99 : decode cX0_orderThoseThatDoNotComeBack 99 = .ok (.getfield 22, 3) := by decide +kernel
theorem dX0_orderThoseThatDoNotComeBack_102 : decode cX0_orderThoseThatDoNotComeBack 102 = .ok (.iload_n 2, 1) := by decide +kernel
theorem dX0_orderThoseThatDoNotComeBack_103 : decode cX0_orderThoseThatDoNotComeBack 103 = .ok (.iaload, 1) := by decide +kernel
theorem dX0_orderThoseThatDoNotComeBack_104 : decode cX0_orderThoseThatDoNotComeBack 104 = .ok (.ifCond .ne 23, 3) := by decide +kernel
theorem dX0_orderThoseThatDoNotComeBack_107 : decode cX0_orderThoseThatDoNotComeBack 107 = .ok (.aload_n 0, 1) := by decide +kernel
theorem dX0_orderThoseThatDoNotComeBack_108 : decode cX0_orderThoseThatDoNotComeBack 108 = .ok (.getfield 25, 3) := by decide +kernel
theorem dX0_orderThoseThatDoNotComeBack_111 : decode cX0_orderThoseThatDoNotComeBack 111 = .ok (.aload_n 0, 1) := by decide +kernel
theorem dX0_orderThoseThatDoNotComeBack_112 : decode cX0_orderThoseThatDoNotComeBack 112 = .ok (.getfield 34, 3) := by decide +kernel
theorem dX0_orderThoseThatDoNotComeBack_115 : decode cX0_orderThoseThatDoNotComeBack 115 = .ok (.iload_n 2, 1) := by decide +kernel
theorem dX0_orderThoseThatDoNotComeBack_116 : decode cX0_orderThoseThatDoNotComeBack 116 = .ok (.iastore, 1) := by decide +kernel
theorem dX0_orderThoseThatDoNotComeBack_117 : decode cX0_orderThoseThatDoNotComeBack 117 = .ok (.aload_n 0, 1) := by decide +kernel
theorem dX0_orderThoseThatDoNotComeBack_118 : decode cX0_orderThoseThatDoNotComeBack 118 = .ok (.dup, 1) := by decide +kernel
theorem dX0_orderThoseThatDoNotComeBack_119 : decode cX0_orderThoseThatDoNotComeBack 119 = .ok (.getfield 34, 3) := by decide +kernel
theorem dX0_orderThoseThatDoNotComeBack_122 : decode cX0_orderThoseThatDoNotComeBack 122 = .ok (.iconst 1, 1) := by decide +kernel
theorem dX0_orderThoseThatDoNotComeBack_123 : decode cX0_orderThoseThatDoNotComeBack 123 = .ok (.iadd, 1) := by decide +kernel
theorem dX0_orderThoseThatDoNotComeBack_124 : decode cX0_orderThoseThatDoNotComeBack 124 = .ok (.putfield 34, 3) := by decide +kernel
theorem dX0_orderThoseThatDoNotComeBack_127 : decode cX0_orderThoseThatDoNotComeBack 127 = .ok (.iinc 1 1, 3) := by decide +kernel
theorem dX0_orderThoseThatDoNotComeBack_130 : decode cX0_orderThoseThatDoNotComeBack 130 = .ok (.goto (-70), 3) := by decide +kernel
theorem dX0_orderThoseThatDoNotComeBack_133 : decode cX0_orderThoseThatDoNotComeBack 133 = .ok (.return_, 1) := by decide +kernel
theorem dX0_findRounds_0 : decode cX0_findRounds 0 = .ok (.aload_n 0, 1) := by decide +kernel
theorem dX0_findRounds_1 : decode cX0_findRounds 1 = .ok (.iconst 0, 1) := by decide +kernel
theorem dX0_findRounds_2 : decode cX0_findRounds 2 = .ok (.putfield 50, 3) := by decide +kernel
theorem dX0_findRounds_5 : decode cX0_findRounds 5 = .ok (.aload_n 0, 1) := by decide +kernel
theorem dX0_findRounds_6 : decode cX0_findRounds 6 = .ok (.getfield 28, 3) := by decide +kernel
theorem dX0_findRounds_9 : decode cX0_findRounds 9 = .ok (.bipush (-9), 2) := by decide +kernel
theorem dX0_findRounds_11 : decode cX0_findRounds 11 = .ok (.invokestatic 91, 3) := by decide +kernel
theorem dX0_findRounds_14 : decode cX0_findRounds 14 = .ok (.iconst 0, 1) := by decide +kernel
theorem dX0_findRounds_15 : decode cX0_findRounds 15 = .ok (.istore_n 1, 1) := by decide +kernel
theorem dX0_findRounds_16 : decode cX0_findRounds 16 = .ok (.iload_n 1, 1) := by decide +kernel
theorem dX0_findRounds_17 : decode cX0_findRounds 17 = .ok (.aload_n 0, 1) := by decide +kernel
theorem dX0_findRounds_18 : decode cX0_findRounds 18 = .ok (.getfield 38, 3) := by decide +kernel
theorem dX0_findRounds_21 : decode cX0_findRounds 21 = .ok (.if_icmp .ge 44, 3) := by decide +kernel
theorem dX0_findRounds_24 : decode cX0_findRounds 24 = .ok (.aload_n 0, 1) := by decide +kernel
theorem dX0_findRounds_25 : decode cX0_findRounds 25 = .ok (.getfield 22, 3) := by decide +kernel
theorem dX0_findRounds_28 : decode cX0_findRounds 28 = .ok (.iload_n 1, 1) := by decide +kernel
theorem dX0_findRounds_29 : decode cX0_findRounds 29 = .ok (.iaload, 1) := by decide +kernel
theorem dX0_findRounds_30 : decode cX0_findRounds 30 = .ok (.ifCond .le 29, 3) := by decide +kernel
theorem dX0_findRounds_33 : decode cX0_findRounds 33 = .ok (.aload_n 0, 1) := by decide +kernel
theorem dX0_findRounds_34 : decode cX0_findRounds 34 = .ok (.getfield 28, 3) := by decide +kernel
theorem dX0_findRounds_37 : decode cX0_findRounds 37 = .ok (.iload_n 1, 1) := by decide +kernel
theorem dX0_findRounds_38 : decode cX0_findRounds 38 = .ok (.iaload, 1) := by decide +kernel
theorem dX0_findRounds_39 : decode cX0_findRounds 39 = .ok (.bipush (-9), 2) := by decide +kernel
theorem dX0_findRounds_41 : decode cX0_findRounds 41 = .ok (.if_icmp .ne 18, 3) := by decide +kernel
theorem dX0_findRounds_44 : decode cX0_findRounds 44 = .ok (.aload_n 0, 1) := by decide +kernel
theorem dX0_findRounds_45 : decode cX0_findRounds 45 = .ok (.dup, 1) := by decide +kernel
theorem dX0_findRounds_46 : decode cX0_findRounds 46 = .ok (.getfield 50, 3) := by decide +kernel
theorem dX0_findRounds_49 : decode cX0_findRounds 49 = .ok (.iconst 1, 1) := by decide +kernel
theorem dX0_findRounds_50 : decode cX0_findRounds 50 = .ok (.iadd, 1) := by decide +kernel
theorem dX0_findRounds_51 : decode cX0_findRounds 51 = .ok (.putfield 50, 3) := by decide +kernel
theorem dX0_findRounds_54 : decode cX0_findRounds 54 = .ok (.aload_n 0, 1) := by decide +kernel
theorem dX0_findRounds_55 : decode cX0_findRounds 55 = .ok (.iload_n 1, 1) := by decide +kernel
theorem dX0_findRounds_56 : decode cX0_findRounds 56 = .ok (.invokevirtual 107, 3) := by decide +kernel
theorem dX0_findRounds_59 : decode cX0_findRounds 59 = .ok (.iinc 1 1, 3) := by decide +kernel
theorem dX0_findRounds_62 : decode cX0_findRounds 62 = .ok (.goto (-46), 3) := by decide +kernel
theorem dX0_findRounds_65 : decode cX0_findRounds 65 = .ok (.return_, 1) := by decide +kernel
theorem dX0_markRound_0 : decode cX0_markRound 0 = .ok (.iload_n 1, 1) := by decide +kernel
theorem dX0_markRound_1 : decode cX0_markRound 1 = .ok (.istore_n 2, 1) := by decide +kernel
theorem dX0_markRound_2 : decode cX0_markRound 2 = .ok (.iconst 0, 1) := by decide +kernel
theorem dX0_markRound_3 : decode cX0_markRound 3 = .ok (.istore_n 3, 1) := by decide +kernel
theorem dX0_markRound_4 : decode cX0_markRound 4 = .ok (.iload_n 3, 1) := by decide +kernel
theorem dX0_markRound_5 : decode cX0_markRound 5 = .ok (.aload_n 0, 1) := by decide +kernel
theorem dX0_markRound_6 : decode cX0_markRound 6 = .ok (.getfield 38, 3) := by decide +kernel
theorem dX0_markRound_9 : decode cX0_markRound 9 = .ok (.if_icmp .ge 41, 3) := by decide +kernel
theorem dX0_markRound_12 : decode cX0_markRound 12 = .ok (.aload_n 0, 1) := by decide +kernel
theorem dX0_markRound_13 : decode cX0_markRound 13 = .ok (.getfield 28, 3) := by decide +kernel
theorem dX0_markRound_16 : decode cX0_markRound 16 = .ok (.iload_n 2, 1) := by decide +kernel
theorem dX0_markRound_17 : decode cX0_markRound 17 = .ok (.iaload, 1) := by decide +kernel
theorem dX0_markRound_18 : decode cX0_markRound 18 = .ok (.bipush (-9), 2) := by decide +kernel
theorem dX0_markRound_20 : decode cX0_markRound 20 = .ok (.if_icmp .ne 30, 3) := by decide +kernel
theorem dX0_markRound_23 : decode cX0_markRound 23 = .ok (.aload_n 0, 1) := by decide +kernel
theorem dX0_markRound_24 : decode cX0_markRound 24 = .ok (.getfield 28, 3) := by decide +kernel
theorem dX0_markRound_27 : decode cX0_markRound 27 = .ok (.iload_n 2, 1) := by decide +kernel
theorem dX0_markRound_28 : decode cX0_markRound 28 = .ok (.iload_n 1, 1) := by decide +kernel
theorem dX0_markRound_29 : decode cX0_markRound 29 = .ok (.iastore, 1) := by decide +kernel
theorem dX0_markRound_30 : decode cX0_markRound 30 = .ok (.aload_n 0, 1) := by decide +kernel
theorem dX0_markRound_31 : decode cX0_markRound 31 = .ok (.getfield 31, 3) := by decide +kernel
theorem dX0_markRound_34 : decode cX0_markRound 34 = .ok (.iload_n 2, 1) := by decide +kernel
theorem dX0_markRound_35 : decode cX0_markRound 35 = .ok (.iconst 0, 1) := by decide +kernel
theorem dX0_markRound_36 : decode cX0_markRound 36 = .ok (.iastore, 1) := by decide +kernel
theorem dX0_markRound_37 : decode cX0_markRound 37 = .ok (.aload_n 0, 1) := by decide +kernel
theorem dX0_markRound_38 : decode cX0_markRound 38 = .ok (.getfield 18, 3) := by decide +kernel
theorem dX0_markRound_41 : decode cX0_markRound 41 = .ok (.iload_n 2, 1) := by decide +kernel
theorem dX0_markRound_42 : decode cX0_markRound 42 = .ok (.iaload, 1) := by decide +kernel
theorem dX0_markRound_43 : decode cX0_markRound 43 = .ok (.istore_n 2, 1) := by decide +kernel
theorem dX0_markRound_44 : decode cX0_markRound 44 = .ok (.iinc 3 1, 3) := by decide +kernel
theorem dX0_markRound_47 : decode cX0_markRound 47 = .ok (.goto (-43), 3) := by decide +kernel
theorem dX0_markRound_50 : decode cX0_markRound 50 = .ok (.return_, 1) := by decide +kernel
theorem dX0_findTails_0 : decode cX0_findTails 0 = .ok (.aload_n 0, 1) := by decide +kernel
theorem dX0_findTails_1 : decode cX0_findTails 1 = .ok (.getfield 34, 3) := by decide +kernel
theorem dX0_findTails_4 : decode cX0_findTails 4 = .ok (.iconst 1, 1) := by decide +kernel
theorem dX0_findTails_5 : decode cX0_findTails 5 = .ok (.isub, 1) := by decide +kernel
theorem dX0_findTails_6 : decode cX0_findTails 6 = .ok (.istore_n 1, 1) := by decide +kernel
theorem dX0_findTails_7 : decode cX0_findTails 7 = .ok (.iload_n 1, 1) := by decide +kernel
theorem dX0_findTails_8 : decode cX0_findTails 8 = .ok (.ifCond .lt 52, 3) := by decide +kernel
theorem dX0_findTails_11 : decode cX0_findTails 11 = .ok (.aload_n 0, 1) := by decide +kernel
theorem dX0_findTails_12 : decode cX0_findTails 12 = .ok (.getfield 25, 3) := by decide +kernel
theorem dX0_findTails_15 : decode cX0_findTails 15 = .ok (.iload_n 1, 1) := by decide +kernel
theorem dX0_findTails_16 : decode cX0_findTails 16 = .ok (.iaload, 1) := by decide +kernel
theorem dX0_findTails_17 : decode cX0_findTails 17 = .ok (.istore_n 2, 1) := by decide +kernel
theorem dX0_findTails_18 : decode cX0_findTails 18 = .ok (.aload_n 0, 1) := by decide +kernel
theorem dX0_findTails_19 : decode cX0_findTails 19 = .ok (.getfield 31, 3) := by decide +kernel
theorem dX0_findTails_22 : decode cX0_findTails 22 = .ok (.iload_n 2, 1) := by decide +kernel
theorem dX0_findTails_23 : decode cX0_findTails 23 = .ok (.aload_n 0, 1) := by decide +kernel
theorem dX0_findTails_24 : decode cX0_findTails 24 = .ok (.getfield 31, 3) := by decide +kernel
theorem dX0_findTails_27 : decode cX0_findTails 27 = .ok (.aload_n 0, 1) := by decide +kernel
theorem dX0_findTails_28 : decode cX0_findTails 28 = .ok (.getfield 18, 3) := by decide +kernel
theorem dX0_findTails_31 : decode cX0_findTails 31 = .ok (.iload_n 2, 1) := by decide +kernel
theorem dX0_findTails_32 : decode cX0_findTails 32 = .ok (.iaload, 1) := by decide +kernel
theorem dX0_findTails_33 : decode cX0_findTails 33 = .ok (.iaload, 1) := by decide +kernel
theorem dX0_findTails_34 : decode cX0_findTails 34 = .ok (.iconst 1, 1) := by decide +kernel
theorem dX0_findTails_35 : decode cX0_findTails 35 = .ok (.iadd, 1) := by decide +kernel
theorem dX0_findTails_36 : decode cX0_findTails 36 = .ok (.iastore, 1) := by decide +kernel
theorem dX0_findTails_37 : decode cX0_findTails 37 = .ok (.aload_n 0, 1) := by decide +kernel
theorem dX0_findTails_38 : decode cX0_findTails 38 = .ok (.getfield 28, 3) := by decide +kernel
theorem dX0_findTails_41 : decode cX0_findTails 41 = .ok (.iload_n 2, 1) := by decide +kernel
theorem dX0_findTails_42 : decode cX0_findTails 42 = .ok (.aload_n 0, 1) := by decide +kernel
theorem dX0_findTails_43 : decode cX0_findTails 43 = .ok (.getfield 28, 3) := by decide +kernel
theorem dX0_findTails_46 : decode cX0_findTails 46 = .ok (.aload_n 0, 1) := by decide +kernel
theorem dX0_findTails_47 : decode cX0_findTails 47 = .ok (.getfield 18, 3) := by decide +kernel
theorem dX0_findTails_50 : decode cX0_findTails 50 = .ok (.iload_n 2, 1) := by decide +kernel
theorem dX0_findTails_51 : decode cX0_findTails 51 = .ok (.iaload, 1) := by decide +kernel
theorem dX0_findTails_52 : decode cX0_findTails 52 = .ok (.iaload, 1) := by decide +kernel
theorem dX0_findTails_53 : decode cX0_findTails 53 = .ok (.iastore, 1) := by decide +kernel
theorem dX0_findTails_54 : decode cX0_findTails 54 = .ok (.iinc 1 (-1), 3) := by decide +kernel
theorem dX0_findTails_57 : decode cX0_findTails 57 = .ok (.goto (-50), 3) := by decide +kernel
theorem dX0_findTails_60 : decode cX0_findTails 60 = .ok (.return_, 1) := by decide +kernel
theorem dX0_sumUp_0 : decode cX0_sumUp 0 = .ok (.aload_n 0, 1) := by decide +kernel
theorem dX0_sumUp_1 : decode cX0_sumUp 1 = .ok (.iconst 0, 1) := by decide +kernel
theorem dX0_sumUp_2 : decode cX0_sumUp 2 = .ok (.putfield 41, 3) := by decide +kernel
theorem dX0_sumUp_5 : decode cX0_sumUp 5 = .ok (.aload_n 0, 1) := by decide +kernel
theorem dX0_sumUp_6 : decode cX0_sumUp 6 = .ok (.iconst 0, 1) := by decide +kernel
theorem dX0_sumUp_7 : decode cX0_sumUp 7 = .ok (.putfield 47, 3) := by decide +kernel
theorem dX0_sumUp_10 : decode cX0_sumUp 10 = .ok (.aload_n 0, 1) := by decide +kernel
theorem dX0_sumUp_11 : decode cX0_sumUp 11 = .ok (.iconst 0, 1) := by decide +kernel
theorem dX0_sumUp_12 : decode cX0_sumUp 12 = .ok (.putfield 53, 3) := by decide +kernel
theorem dX0_sumUp_15 : decode cX0_sumUp 15 = .ok (.aload_n 0, 1) := by decide +kernel
theorem dX0_sumUp_16 : decode cX0_sumUp 16 = .ok (.iconst 0, 1) := by decide +kernel
theorem dX0_sumUp_17 : decode cX0_sumUp 17 = .ok (.putfield 56, 3) := by decide +kernel
theorem dX0_sumUp_20 : decode cX0_sumUp 20 = .ok (.iconst 0, 1) := by decide +kernel
theorem dX0_sumUp_21 : decode cX0_sumUp 21 = .ok (.istore_n 1, 1) := by decide +kernel
theorem dX0_sumUp_22 : decode cX0_sumUp 22 = .ok (.iload_n 1, 1) := by decide +kernel
theorem dX0_sumUp_23 : decode cX0_sumUp 23 = .ok (.aload_n 0, 1) := by decide +kernel
theorem dX0_sumUp_24 : decode cX0_sumUp 24 = .ok (.getfield 38, 3) := by decide +kernel
theorem dX0_sumUp_27 : decode cX0_sumUp 27 = .ok (.if_icmp .ge 75, 3) := by decide +kernel
theorem dX0_sumUp_30 : decode cX0_sumUp 30 = .ok (.aload_n 0, 1) := by decide +kernel
theorem dX0_sumUp_31 : decode cX0_sumUp 31 = .ok (.getfield 18, 3) := by decide +kernel
theorem dX0_sumUp_34 : decode cX0_sumUp 34 = .ok (.iload_n 1, 1) := by decide +kernel
theorem dX0_sumUp_35 : decode cX0_sumUp 35 = .ok (.iaload, 1) := by decide +kernel
theorem dX0_sumUp_36 : decode cX0_sumUp 36 = .ok (.iload_n 1, 1) := by decide +kernel
theorem dX0_sumUp_37 : decode cX0_sumUp 37 = .ok (.if_icmp .ne 13, 3) := by decide +kernel
theorem dX0_sumUp_40 : decode cX0_sumUp 40 = .ok (.aload_n 0, 1) := by decide +kernel
theorem dX0_sumUp_41 : decode cX0_sumUp 41 = .ok (.dup, 1) := by decide +kernel
theorem dX0_sumUp_42 : decode cX0_sumUp 42 = .ok (.getfield 41, 3) := by decide +kernel
theorem dX0_sumUp_45 : decode cX0_sumUp 45 = .ok (.iconst 1, 1) := by decide +kernel
theorem dX0_sumUp_46 : decode cX0_sumUp 46 = .ok (.iadd, 1) := by decide +kernel
theorem dX0_sumUp_47 : decode cX0_sumUp 47 = .ok (.putfield 41, 3) := by decide +kernel
theorem dX0_sumUp_50 : decode cX0_sumUp 50 = .ok (.aload_n 0, 1) := by decide +kernel
theorem dX0_sumUp_51 : decode cX0_sumUp 51 = .ok (.iload_n 1, 1) := by decide +kernel
theorem dX0_sumUp_52 : decode cX0_sumUp 52 = .ok (.invokevirtual 111, 3) := by decide +kernel
theorem dX0_sumUp_55 : decode cX0_sumUp 55 = .ok (.ifCond .eq 13, 3) := by decide +kernel
theorem dX0_sumUp_58 : decode cX0_sumUp 58 = .ok (.aload_n 0, 1) := by decide +kernel
theorem dX0_sumUp_59 : decode cX0_sumUp 59 = .ok (.dup, 1) := by decide +kernel
theorem dX0_sumUp_60 : decode cX0_sumUp 60 = .ok (.getfield 47, 3) := by decide +kernel
theorem dX0_sumUp_63 : decode cX0_sumUp 63 = .ok (.iconst 1, 1) := by decide +kernel
theorem dX0_sumUp_64 : decode cX0_sumUp 64 = .ok (.iadd, 1) := by decide +kernel
theorem dX0_sumUp_65 : decode cX0_sumUp 65 = .ok (.putfield 47, 3) := by decide +kernel
theorem dX0_sumUp_68 : decode cX0_sumUp 68 = .ok (.aload_n 0, 1) := by decide +kernel
theorem dX0_sumUp_69 : decode cX0_sumUp 69 = .ok (.getfield 31, 3) := by decide +kernel
theorem dX0_sumUp_72 : decode cX0_sumUp 72 = .ok (.iload_n 1, 1) := by decide +kernel
theorem dX0_sumUp_73 : decode cX0_sumUp 73 = .ok (.iaload, 1) := by decide +kernel
theorem dX0_sumUp_74 : decode cX0_sumUp 74 = .ok (.aload_n 0, 1) := by decide +kernel
theorem dX0_sumUp_75 : decode cX0_sumUp 75 = .ok (.getfield 53, 3) := by decide +kernel
theorem dX0_sumUp_78 : decode cX0_sumUp 78 = .ok (.if_icmp .le 18, 3) := by decide +kernel
theorem dX0_sumUp_81 : decode cX0_sumUp 81 = .ok (.aload_n 0, 1) := by decide +kernel
theorem dX0_sumUp_82 : decode cX0_sumUp 82 = .ok (.aload_n 0, 1) := by decide +kernel
theorem dX0_sumUp_83 : decode cX0_sumUp 83 = .ok (.getfield 31, 3) := by decide +kernel
theorem dX0_sumUp_86 : decode cX0_sumUp 86 = .ok (.iload_n 1, 1) := by decide +kernel
theorem dX0_sumUp_87 : decode cX0_sumUp 87 = .ok (.iaload, 1) := by decide +kernel
theorem dX0_sumUp_88 : decode cX0_sumUp 88 = .ok (.putfield 53, 3) := by decide +kernel
theorem dX0_sumUp_91 : decode cX0_sumUp 91 = .ok (.aload_n 0, 1) := by decide +kernel
theorem dX0_sumUp_92 : decode cX0_sumUp 92 = .ok (.iload_n 1, 1) := by decide +kernel
theorem dX0_sumUp_93 : decode cX0_sumUp 93 = .ok (.putfield 56, 3) := by decide +kernel
theorem dX0_sumUp_96 : decode cX0_sumUp 96 = .ok (.iinc 1 1, 3) := by decide +kernel
theorem dX0_sumUp_99 : decode cX0_sumUp 99 = .ok (.goto (-77), 3) := by decide +kernel
theorem dX0_sumUp_102 : decode cX0_sumUp 102 = .ok (.return_, 1) := by decide +kernel
theorem dX0_isRow_0 : decode cX0_isRow 0 = .ok (.iload_n 1, 1) := by decide +kernel
theorem dX0_isRow_1 : decode cX0_isRow 1 = .ok (.ifCond .lt 15, 3) := by decide +kernel
theorem dX0_isRow_4 : decode cX0_isRow 4 = .ok (.iload_n 1, 1) := by decide +kernel
theorem dX0_isRow_5 : decode cX0_isRow 5 = .ok (.aload_n 0, 1) := by decide +kernel
theorem dX0_isRow_6 : decode cX0_isRow 6 = .ok (.getfield 38, 3) := by decide +kernel
theorem dX0_isRow_9 : decode cX0_isRow 9 = .ok (.if_icmp .ge 7, 3) := by decide +kernel
theorem dX0_isRow_12 : decode cX0_isRow 12 = .ok (.iconst 1, 1) := by decide +kernel
theorem dX0_isRow_13 : decode cX0_isRow 13 = .ok (.goto 4, 3) := by decide +kernel
theorem dX0_isRow_16 : decode cX0_isRow 16 = .ok (.iconst 0, 1) := by decide +kernel
theorem dX0_isRow_17 : decode cX0_isRow 17 = .ok (.ireturn, 1) := by decide +kernel
theorem dX0_nextOf_0 : decode cX0_nextOf 0 = .ok (.aload_n 0, 1) := by decide +kernel
theorem dX0_nextOf_1 : decode cX0_nextOf 1 = .ok (.iload_n 1, 1) := by decide +kernel
theorem dX0_nextOf_2 : decode cX0_nextOf 2 = .ok (.invokevirtual 115, 3) := by decide +kernel
theorem dX0_nextOf_5 : decode cX0_nextOf 5 = .ok (.ifCond .eq 12, 3) := by decide +kernel
theorem dX0_nextOf_8 : decode cX0_nextOf 8 = .ok (.aload_n 0, 1) := by decide +kernel
theorem dX0_nextOf_9 : decode cX0_nextOf 9 = .ok (.getfield 18, 3) := by decide +kernel
theorem dX0_nextOf_12 : decode cX0_nextOf 12 = .ok (.iload_n 1, 1) := by decide +kernel
theorem dX0_nextOf_13 : decode cX0_nextOf 13 = .ok (.iaload, 1) := by decide +kernel
theorem dX0_nextOf_14 : decode cX0_nextOf 14 = .ok (.goto 4, 3) := by decide +kernel
theorem dX0_nextOf_17 : decode cX0_nextOf 17 = .ok (.iconst 0, 1) := by decide +kernel
theorem dX0_nextOf_18 : decode cX0_nextOf 18 = .ok (.ireturn, 1) := by decide +kernel
theorem dX0_tailOf_0 : decode cX0_tailOf 0 = .ok (.aload_n 0, 1) := by decide +kernel
theorem dX0_tailOf_1 : decode cX0_tailOf 1 = .ok (.iload_n 1, 1) := by decide +kernel
theorem dX0_tailOf_2 : decode cX0_tailOf 2 = .ok (.invokevirtual 115, 3) := by decide +kernel
theorem dX0_tailOf_5 : decode cX0_tailOf 5 = .ok (.ifCond .eq 12, 3) := by decide +kernel
theorem dX0_tailOf_8 : decode cX0_tailOf 8 = .ok (.aload_n 0, 1) := by decide +kernel
theorem dX0_tailOf_9 : decode cX0_tailOf 9 = .ok (.getfield 31, 3) := by decide +kernel
theorem dX0_tailOf_12 : decode cX0_tailOf 12 = .ok (.iload_n 1, 1) := by decide +kernel
theorem dX0_tailOf_13 : decode cX0_tailOf 13 = .ok (.iaload, 1) := by decide +kernel
theorem dX0_tailOf_14 : decode cX0_tailOf 14 = .ok (.goto 4, 3) := by decide +kernel
theorem dX0_tailOf_17 : decode cX0_tailOf 17 = .ok (.iconst 0, 1) := by decide +kernel
theorem dX0_tailOf_18 : decode cX0_tailOf 18 = .ok (.ireturn, 1) := by decide +kernel
theorem dX0_roundOf_0 : decode cX0_roundOf 0 = .ok (.aload_n 0, 1) := by decide +kernel
theorem dX0_roundOf_1 : decode cX0_roundOf 1 = .ok (.iload_n 1, 1) := by decide +kernel
theorem dX0_roundOf_2 : decode cX0_roundOf 2 = .ok (.invokevirtual 115, 3) := by decide +kernel
theorem dX0_roundOf_5 : decode cX0_roundOf 5 = .ok (.ifCond .eq 12, 3) := by decide +kernel
theorem dX0_roundOf_8 : decode cX0_roundOf 8 = .ok (.aload_n 0, 1) := by decide +kernel
theorem dX0_roundOf_9 : decode cX0_roundOf 9 = .ok (.getfield 28, 3) := by decide +kernel
theorem dX0_roundOf_12 : decode cX0_roundOf 12 = .ok (.iload_n 1, 1) := by decide +kernel
theorem dX0_roundOf_13 : decode cX0_roundOf 13 = .ok (.iaload, 1) := by decide +kernel
theorem dX0_roundOf_14 : decode cX0_roundOf 14 = .ok (.goto 4, 3) := by decide +kernel
theorem dX0_roundOf_17 : decode cX0_roundOf 17 = .ok (.iconst 0, 1) := by decide +kernel
theorem dX0_roundOf_18 : decode cX0_roundOf 18 = .ok (.istore_n 2, 1) := by decide +kernel
theorem dX0_roundOf_19 : decode cX0_roundOf 19 = .ok (.iconst 1, 1) := by decide +kernel
theorem dX0_roundOf_20 : decode cX0_roundOf 20 = .ok (.istore_n 3, 1) := by decide +kernel
theorem dX0_roundOf_21 : decode cX0_roundOf 21 = .ok (.aload_n 0, 1) := by decide +kernel
theorem dX0_roundOf_22 : decode cX0_roundOf 22 = .ok (.iload_n 2, 1) := by decide +kernel
theorem dX0_roundOf_23 : decode cX0_roundOf 23 = .ok (.invokevirtual 118, 3) := by decide +kernel
theorem dX0_roundOf_26 : decode cX0_roundOf 26 = .ok (.istore 4, 2) := by decide +kernel
theorem dX0_roundOf_28 : decode cX0_roundOf 28 = .ok (.iload 4, 2) := by decide +kernel
theorem dX0_roundOf_30 : decode cX0_roundOf 30 = .ok (.iload_n 2, 1) := by decide +kernel
theorem dX0_roundOf_31 : decode cX0_roundOf 31 = .ok (.if_icmp .eq 25, 3) := by decide +kernel
theorem dX0_roundOf_34 : decode cX0_roundOf 34 = .ok (.iload_n 3, 1) := by decide +kernel
theorem dX0_roundOf_35 : decode cX0_roundOf 35 = .ok (.aload_n 0, 1) := by decide +kernel
theorem dX0_roundOf_36 : decode cX0_roundOf 36 = .ok (.getfield 38, 3) := by decide +kernel
theorem dX0_roundOf_39 : decode cX0_roundOf 39 = .ok (.if_icmp .ge 17, 3) := by decide +kernel
theorem dX0_roundOf_42 : decode cX0_roundOf 42 = .ok (.iinc 3 1, 3) := by decide +kernel
theorem dX0_roundOf_45 : decode cX0_roundOf 45 = .ok (.aload_n 0, 1) := by decide +kernel
theorem dX0_roundOf_46 : decode cX0_roundOf 46 = .ok (.iload 4, 2) := by decide +kernel
theorem dX0_roundOf_48 : decode cX0_roundOf 48 = .ok (.invokevirtual 118, 3) := by decide +kernel
theorem dX0_roundOf_51 : decode cX0_roundOf 51 = .ok (.istore 4, 2) := by decide +kernel
theorem dX0_roundOf_53 : decode cX0_roundOf 53 = .ok (.goto (-25), 3) := by decide +kernel
theorem dX0_roundOf_56 : decode cX0_roundOf 56 = .ok (.iload_n 3, 1) := by decide +kernel
theorem dX0_roundOf_57 : decode cX0_roundOf 57 = .ok (.ireturn, 1) := by decide +kernel
theorem dX0_goesOut_0 : decode cX0_goesOut 0 = .ok (.aload_n 0, 1) := by decide +kernel
theorem dX0_goesOut_1 : decode cX0_goesOut 1 = .ok (.iload_n 1, 1) := by decide +kernel
theorem dX0_goesOut_2 : decode cX0_goesOut 2 = .ok (.invokevirtual 115, 3) := by decide +kernel
theorem dX0_goesOut_5 : decode cX0_goesOut 5 = .ok (.ifCond .eq 16, 3) := by decide +kernel
theorem dX0_goesOut_8 : decode cX0_goesOut 8 = .ok (.aload_n 0, 1) := by decide +kernel
theorem dX0_goesOut_9 : decode cX0_goesOut 9 = .ok (.getfield 28, 3) := by decide +kernel
theorem dX0_goesOut_12 : decode cX0_goesOut 12 = .ok (.iload_n 1, 1) := by decide +kernel
theorem dX0_goesOut_13 : decode cX0_goesOut 13 = .ok (.iaload, 1) := by decide +kernel
theorem dX0_goesOut_14 : decode cX0_goesOut 14 = .ok (.ifCond .ne 7, 3) := by decide +kernel
theorem dX0_goesOut_17 : decode cX0_goesOut 17 = .ok (.iconst 1, 1) := by decide +kernel
theorem dX0_goesOut_18 : decode cX0_goesOut 18 = .ok (.goto 4, 3) := by decide +kernel
theorem dX0_goesOut_21 : decode cX0_goesOut 21 = .ok (.iconst 0, 1) := by decide +kernel
theorem dX0_goesOut_22 : decode cX0_goesOut 22 = .ok (.ireturn, 1) := by decide +kernel
theorem dX0_behind_0 : decode cX0_behind 0 = .ok (.aload_n 0, 1) := by decide +kernel
theorem dX0_behind_1 : decode cX0_behind 1 = .ok (.iload_n 1, 1) := by decide +kernel
theorem dX0_behind_2 : decode cX0_behind 2 = .ok (.invokevirtual 122, 3) := by decide +kernel
theorem dX0_behind_5 : decode cX0_behind 5 = .ok (.istore 4, 2) := by decide +kernel
theorem dX0_behind_7 : decode cX0_behind 7 = .ok (.aload_n 0, 1) := by decide +kernel
theorem dX0_behind_8 : decode cX0_behind 8 = .ok (.iload_n 1, 1) := by decide +kernel
theorem dX0_behind_9 : decode cX0_behind 9 = .ok (.invokevirtual 125, 3) := by decide +kernel
theorem dX0_behind_12 : decode cX0_behind 12 = .ok (.istore 5, 2) := by decide +kernel
theorem dX0_behind_14 : decode cX0_behind 14 = .ok (.lload_n 2, 1) := by decide +kernel
theorem dX0_behind_15 : decode cX0_behind 15 = .ok (.lstore 6, 2) := by decide +kernel
theorem dX0_behind_17 : decode cX0_behind 17 = .ok (.lload 6, 2) := by decide +kernel
theorem dX0_behind_19 : decode cX0_behind 19 = .ok (.iload 4, 2) := by decide +kernel
theorem dX0_behind_21 : decode cX0_behind 21 = .ok (.i2l, 1) := by decide +kernel
theorem dX0_behind_22 : decode cX0_behind 22 = .ok (.lcmp, 1) := by decide +kernel
theorem dX0_behind_23 : decode cX0_behind 23 = .ok (.ifCond .le 24, 3) := by decide +kernel
theorem dX0_behind_26 : decode cX0_behind 26 = .ok (.iload 5, 2) := by decide +kernel
theorem dX0_behind_28 : decode cX0_behind 28 = .ok (.ifCond .le 19, 3) := by decide +kernel
theorem dX0_behind_31 : decode cX0_behind 31 = .ok (.iload 4, 2) := by decide +kernel
theorem dX0_behind_33 : decode cX0_behind 33 = .ok (.i2l, 1) := by decide +kernel
theorem dX0_behind_34 : decode cX0_behind 34 = .ok (.lload 6, 2) := by decide +kernel
theorem dX0_behind_36 : decode cX0_behind 36 = .ok (.iload 4, 2) := by decide +kernel
theorem dX0_behind_38 : decode cX0_behind 38 = .ok (.i2l, 1) := by decide +kernel
theorem dX0_behind_39 : decode cX0_behind 39 = .ok (.lsub, 1) := by decide +kernel
theorem dX0_behind_40 : decode cX0_behind 40 = .ok (.iload 5, 2) := by decide +kernel
theorem dX0_behind_42 : decode cX0_behind 42 = .ok (.i2l, 1) := by decide +kernel
theorem dX0_behind_43 : decode cX0_behind 43 = .ok (.lrem, 1) := by decide +kernel
theorem dX0_behind_44 : decode cX0_behind 44 = .ok (.ladd, 1) := by decide +kernel
theorem dX0_behind_45 : decode cX0_behind 45 = .ok (.lstore 6, 2) := by decide +kernel
theorem dX0_behind_47 : decode cX0_behind 47 = .ok (.iload_n 1, 1) := by decide +kernel
theorem dX0_behind_48 : decode cX0_behind 48 = .ok (.istore 8, 2) := by decide +kernel
theorem dX0_behind_50 : decode cX0_behind 50 = .ok (.lconst 0, 1) := by decide +kernel
theorem dX0_behind_51 : decode cX0_behind 51 = .ok (.lstore 9, 2) := by decide +kernel
theorem dX0_behind_53 : decode cX0_behind 53 = .ok (.lload 9, 2) := by decide +kernel
theorem dX0_behind_55 : decode cX0_behind 55 = .ok (.lload 6, 2) := by decide +kernel
theorem dX0_behind_57 : decode cX0_behind 57 = .ok (.lcmp, 1) := by decide +kernel
theorem dX0_behind_58 : decode cX0_behind 58 = .ok (.ifCond .ge 20, 3) := by decide +kernel
theorem dX0_behind_61 : decode cX0_behind 61 = .ok (.aload_n 0, 1) := by decide +kernel
theorem dX0_behind_62 : decode cX0_behind 62 = .ok (.iload 8, 2) := by decide +kernel
theorem dX0_behind_64 : decode cX0_behind 64 = .ok (.invokevirtual 118, 3) := by decide +kernel
theorem dX0_behind_67 : decode cX0_behind 67 = .ok (.istore 8, 2) := by decide +kernel
theorem dX0_behind_69 : decode cX0_behind 69 = .ok (.lload 9, 2) := by decide +kernel
theorem dX0_behind_71 : decode cX0_behind 71 = .ok (.lconst 1, 1) := by decide +kernel
theorem dX0_behind_72 : decode cX0_behind 72 = .ok (.ladd, 1) := by decide +kernel
theorem dX0_behind_73 : decode cX0_behind 73 = .ok (.lstore 9, 2) := by decide +kernel
theorem dX0_behind_75 : decode cX0_behind 75 = .ok (.goto (-22), 3) := by decide +kernel
theorem dX0_behind_78 : decode cX0_behind 78 = .ok (.iload 8, 2) := by decide +kernel
theorem dX0_behind_80 : decode cX0_behind 80 = .ok (.ireturn, 1) := by decide +kernel
theorem dX0_comersOf_0 : decode cX0_comersOf 0 = .ok (.iconst 0, 1) := by decide +kernel
theorem dX0_comersOf_1 : decode cX0_comersOf 1 = .ok (.istore_n 2, 1) := by decide +kernel
theorem dX0_comersOf_2 : decode cX0_comersOf 2 = .ok (.iconst 0, 1) := by decide +kernel
theorem dX0_comersOf_3 : decode cX0_comersOf 3 = .ok (.istore_n 3, 1) := by decide +kernel
theorem dX0_comersOf_4 : decode cX0_comersOf 4 = .ok (.iload_n 3, 1) := by decide +kernel
theorem dX0_comersOf_5 : decode cX0_comersOf 5 = .ok (.aload_n 0, 1) := by decide +kernel
theorem dX0_comersOf_6 : decode cX0_comersOf 6 = .ok (.getfield 38, 3) := by decide +kernel
theorem dX0_comersOf_9 : decode cX0_comersOf 9 = .ok (.if_icmp .ge 22, 3) := by decide +kernel
theorem dX0_comersOf_12 : decode cX0_comersOf 12 = .ok (.aload_n 0, 1) := by decide +kernel
theorem dX0_comersOf_13 : decode cX0_comersOf 13 = .ok (.getfield 18, 3) := by decide +kernel
theorem dX0_comersOf_16 : decode cX0_comersOf 16 = .ok (.iload_n 3, 1) := by decide +kernel
theorem dX0_comersOf_17 : decode cX0_comersOf 17 = .ok (.iaload, 1) := by decide +kernel
theorem dX0_comersOf_18 : decode cX0_comersOf 18 = .ok (.iload_n 1, 1) := by decide +kernel
theorem dX0_comersOf_19 : decode cX0_comersOf 19 = .ok (.if_icmp .ne 6, 3) := by decide +kernel
theorem dX0_comersOf_22 : decode cX0_comersOf 22 = .ok (.iinc 2 1, 3) := by decide +kernel
theorem dX0_comersOf_25 : decode cX0_comersOf 25 = .ok (.iinc 3 1, 3) := by decide +kernel
theorem dX0_comersOf_28 : decode cX0_comersOf 28 = .ok (.goto (-24), 3) := by decide +kernel
theorem dX0_comersOf_31 : decode cX0_comersOf 31 = .ok (.iload_n 2, 1) := by decide +kernel
theorem dX0_comersOf_32 : decode cX0_comersOf 32 = .ok (.ireturn, 1) := by decide +kernel
theorem dX0_firstComerOf_0 : decode cX0_firstComerOf 0 = .ok (.iconst 0, 1) := by decide +kernel
theorem dX0_firstComerOf_1 : decode cX0_firstComerOf 1 = .ok (.istore_n 2, 1) := by decide +kernel
theorem dX0_firstComerOf_2 : decode cX0_firstComerOf 2 = .ok (.iload_n 2, 1) := by decide +kernel
theorem dX0_firstComerOf_3 : decode cX0_firstComerOf 3 = .ok (.aload_n 0, 1) := by decide +kernel
theorem dX0_firstComerOf_4 : decode cX0_firstComerOf 4 = .ok (.getfield 38, 3) := by decide +kernel
theorem dX0_firstComerOf_7 : decode cX0_firstComerOf 7 = .ok (.if_icmp .ge 21, 3) := by decide +kernel
theorem dX0_firstComerOf_10 : decode cX0_firstComerOf 10 = .ok (.aload_n 0, 1) := by decide +kernel
theorem dX0_firstComerOf_11 : decode cX0_firstComerOf 11 = .ok (.getfield 18, 3) := by decide +kernel
theorem dX0_firstComerOf_14 : decode cX0_firstComerOf 14 = .ok (.iload_n 2, 1) := by decide +kernel
theorem dX0_firstComerOf_15 : decode cX0_firstComerOf 15 = .ok (.iaload, 1) := by decide +kernel
theorem dX0_firstComerOf_16 : decode cX0_firstComerOf 16 = .ok (.iload_n 1, 1) := by decide +kernel
theorem dX0_firstComerOf_17 : decode cX0_firstComerOf 17 = .ok (.if_icmp .ne 5, 3) := by decide +kernel
theorem dX0_firstComerOf_20 : decode cX0_firstComerOf 20 = .ok (.iload_n 2, 1) := by decide +kernel
theorem dX0_firstComerOf_21 : decode cX0_firstComerOf 21 = .ok (.ireturn, 1) := by decide +kernel
theorem dX0_firstComerOf_22 : decode cX0_firstComerOf 22 = .ok (.iinc 2 1, 3) := by decide +kernel
theorem dX0_firstComerOf_25 : decode cX0_firstComerOf 25 = .ok (.goto (-23), 3) := by decide +kernel
theorem dX0_firstComerOf_28 : decode cX0_firstComerOf 28 = .ok (.bipush (-9), 2) := by decide +kernel
theorem dX0_firstComerOf_30 : decode cX0_firstComerOf 30 = .ok (.ireturn, 1) := by decide +kernel
theorem dX0_meeting_0 : decode cX0_meeting 0 = .ok (.iload_n 1, 1) := by decide +kernel
theorem dX0_meeting_1 : decode cX0_meeting 1 = .ok (.istore_n 3, 1) := by decide +kernel
theorem dX0_meeting_2 : decode cX0_meeting 2 = .ok (.iload_n 2, 1) := by decide +kernel
theorem dX0_meeting_3 : decode cX0_meeting 3 = .ok (.istore 4, 2) := by decide +kernel
theorem dX0_meeting_5 : decode cX0_meeting 5 = .ok (.iconst 0, 1) := by decide +kernel
theorem dX0_meeting_6 : decode cX0_meeting 6 = .ok (.istore 5, 2) := by decide +kernel
theorem dX0_meeting_8 : decode cX0_meeting 8 = .ok (.iload 5, 2) := by decide +kernel
theorem dX0_meeting_10 : decode cX0_meeting 10 = .ok (.aload_n 0, 1) := by decide +kernel
theorem dX0_meeting_11 : decode cX0_meeting 11 = .ok (.getfield 53, 3) := by decide +kernel
theorem dX0_meeting_14 : decode cX0_meeting 14 = .ok (.if_icmp .gt 32, 3) := by decide +kernel
theorem dX0_meeting_17 : decode cX0_meeting 17 = .ok (.iload_n 3, 1) := by decide +kernel
theorem dX0_meeting_18 : decode cX0_meeting 18 = .ok (.iload 4, 2) := by decide +kernel
theorem dX0_meeting_20 : decode cX0_meeting 20 = .ok (.if_icmp .ne 6, 3) := by decide +kernel
theorem dX0_meeting_23 : decode cX0_meeting 23 = .ok (.iload 5, 2) := by decide +kernel
theorem dX0_meeting_25 : decode cX0_meeting 25 = .ok (.ireturn, 1) := by decide +kernel
theorem dX0_meeting_26 : decode cX0_meeting 26 = .ok (.aload_n 0, 1) := by decide +kernel
theorem dX0_meeting_27 : decode cX0_meeting 27 = .ok (.iload_n 3, 1) := by decide +kernel
theorem dX0_meeting_28 : decode cX0_meeting 28 = .ok (.invokevirtual 118, 3) := by decide +kernel
theorem dX0_meeting_31 : decode cX0_meeting 31 = .ok (.istore_n 3, 1) := by decide +kernel
theorem dX0_meeting_32 : decode cX0_meeting 32 = .ok (.aload_n 0, 1) := by decide +kernel
theorem dX0_meeting_33 : decode cX0_meeting 33 = .ok (.iload 4, 2) := by decide +kernel
theorem dX0_meeting_35 : decode cX0_meeting 35 = .ok (.invokevirtual 118, 3) := by decide +kernel
theorem dX0_meeting_38 : decode cX0_meeting 38 = .ok (.istore 4, 2) := by decide +kernel
theorem dX0_meeting_40 : decode cX0_meeting 40 = .ok (.iinc 5 1, 3) := by decide +kernel
theorem dX0_meeting_43 : decode cX0_meeting 43 = .ok (.goto (-35), 3) := by decide +kernel
theorem dX0_meeting_46 : decode cX0_meeting 46 = .ok (.bipush (-9), 2) := by decide +kernel
theorem dX0_meeting_48 : decode cX0_meeting 48 = .ok (.ireturn, 1) := by decide +kernel
theorem dX0_leastSetToGoOut_0 : decode cX0_leastSetToGoOut 0 = .ok (.iconst 1, 1) := by decide +kernel
theorem dX0_leastSetToGoOut_1 : decode cX0_leastSetToGoOut 1 = .ok (.aload_n 0, 1) := by decide +kernel
theorem dX0_leastSetToGoOut_2 : decode cX0_leastSetToGoOut 2 = .ok (.getfield 12, 3) := by decide +kernel
theorem dX0_leastSetToGoOut_5 : decode cX0_leastSetToGoOut 5 = .ok (.getfield 67, 3) := by decide +kernel
theorem dX0_leastSetToGoOut_8 : decode cX0_leastSetToGoOut 8 = .ok (.ishl, 1) := by decide +kernel
theorem dX0_leastSetToGoOut_9 : decode cX0_leastSetToGoOut 9 = .ok (.iconst 1, 1) := by decide +kernel
theorem dX0_leastSetToGoOut_10 : decode cX0_leastSetToGoOut 10 = .ok (.isub, 1) := by decide +kernel
theorem dX0_leastSetToGoOut_11 : decode cX0_leastSetToGoOut 11 = .ok (.istore_n 2, 1) := by decide +kernel
theorem dX0_leastSetToGoOut_12 : decode cX0_leastSetToGoOut 12 = .ok (.iconst 0, 1) := by decide +kernel
theorem dX0_leastSetToGoOut_13 : decode cX0_leastSetToGoOut 13 = .ok (.istore_n 3, 1) := by decide +kernel
theorem dX0_leastSetToGoOut_14 : decode cX0_leastSetToGoOut 14 = .ok (.iload_n 3, 1) := by decide +kernel
theorem dX0_leastSetToGoOut_15 : decode cX0_leastSetToGoOut 15 = .ok (.aload_n 0, 1) := by decide +kernel
theorem dX0_leastSetToGoOut_16 : decode cX0_leastSetToGoOut 16 = .ok (.getfield 38, 3) := by decide +kernel
theorem dX0_leastSetToGoOut_19 : decode cX0_leastSetToGoOut 19 = .ok (.if_icmp .ge 56, 3) := by decide +kernel
theorem dX0_leastSetToGoOut_22 : decode cX0_leastSetToGoOut 22 = .ok (.aload_n 0, 1) := by decide +kernel
theorem dX0_leastSetToGoOut_23 : decode cX0_leastSetToGoOut 23 = .ok (.iload_n 3, 1) := by decide +kernel
theorem dX0_leastSetToGoOut_24 : decode cX0_leastSetToGoOut 24 = .ok (.invokevirtual 111, 3) := by decide +kernel
theorem dX0_leastSetToGoOut_27 : decode cX0_leastSetToGoOut 27 = .ok (.ifCond .eq 42, 3) := by decide +kernel
theorem dX0_leastSetToGoOut_30 : decode cX0_leastSetToGoOut 30 = .ok (.aload_n 0, 1) := by decide +kernel
theorem dX0_leastSetToGoOut_31 : decode cX0_leastSetToGoOut 31 = .ok (.iload_n 1, 1) := by decide +kernel
theorem dX0_leastSetToGoOut_32 : decode cX0_leastSetToGoOut 32 = .ok (.iload_n 3, 1) := by decide +kernel
theorem dX0_leastSetToGoOut_33 : decode cX0_leastSetToGoOut 33 = .ok (.invokevirtual 128, 3) := by decide +kernel
theorem dX0_leastSetToGoOut_36 : decode cX0_leastSetToGoOut 36 = .ok (.istore 4, 2) := by decide +kernel
theorem dX0_leastSetToGoOut_38 : decode cX0_leastSetToGoOut 38 = .ok (.iload 4, 2) := by decide +kernel
theorem dX0_leastSetToGoOut_40 : decode cX0_leastSetToGoOut 40 = .ok (.invokestatic 132, 3) := by decide +kernel
theorem dX0_leastSetToGoOut_43 : decode cX0_leastSetToGoOut 43 = .ok (.iload_n 2, 1) := by decide +kernel
theorem dX0_leastSetToGoOut_44 : decode cX0_leastSetToGoOut 44 = .ok (.invokestatic 132, 3) := by decide +kernel
theorem dX0_leastSetToGoOut_47 : decode cX0_leastSetToGoOut 47 = .ok (.isub, 1) := by decide +kernel
theorem dX0_leastSetToGoOut_48 : decode cX0_leastSetToGoOut 48 = .ok (.istore 5, 2) := by decide +kernel
theorem dX0_leastSetToGoOut_50 : decode cX0_leastSetToGoOut 50 = .ok (.iload 5, 2) := by decide +kernel
theorem dX0_leastSetToGoOut_52 : decode cX0_leastSetToGoOut 52 = .ok (.ifCond .lt 14, 3) := by decide +kernel
theorem dX0_leastSetToGoOut_55 : decode cX0_leastSetToGoOut 55 = .ok (.iload 5, 2) := by decide +kernel
theorem dX0_leastSetToGoOut_57 : decode cX0_leastSetToGoOut 57 = .ok (.ifCond .ne 12, 3) := by decide +kernel
theorem dX0_leastSetToGoOut_60 : decode cX0_leastSetToGoOut 60 = .ok (.iload 4, 2) := by decide +kernel
theorem dX0_leastSetToGoOut_62 : decode cX0_leastSetToGoOut 62 = .ok (.iload_n 2, 1) := by decide +kernel
theorem dX0_leastSetToGoOut_63 : decode cX0_leastSetToGoOut 63 = .ok (.if_icmp .ge 6, 3) := by decide +kernel
theorem dX0_leastSetToGoOut_66 : decode cX0_leastSetToGoOut 66 = .ok (.iload 4, 2) := by decide +kernel
theorem dX0_leastSetToGoOut_68 : decode cX0_leastSetToGoOut 68 = .ok (.istore_n 2, 1) := by decide +kernel
theorem dX0_leastSetToGoOut_69 : decode cX0_leastSetToGoOut 69 = .ok (.iinc 3 1, 3) := by decide +kernel
theorem dX0_leastSetToGoOut_72 : decode cX0_leastSetToGoOut 72 = .ok (.goto (-58), 3) := by decide +kernel
theorem dX0_leastSetToGoOut_75 : decode cX0_leastSetToGoOut 75 = .ok (.iload_n 2, 1) := by decide +kernel
theorem dX0_leastSetToGoOut_76 : decode cX0_leastSetToGoOut 76 = .ok (.ireturn, 1) := by decide +kernel
theorem dX0_unlikePlaces_0 : decode cX0_unlikePlaces 0 = .ok (.aload_n 0, 1) := by decide +kernel
theorem dX0_unlikePlaces_1 : decode cX0_unlikePlaces 1 = .ok (.getfield 12, 3) := by decide +kernel
theorem dX0_unlikePlaces_4 : decode cX0_unlikePlaces 4 = .ok (.getfield 70, 3) := by decide +kernel
theorem dX0_unlikePlaces_7 : decode cX0_unlikePlaces 7 = .ok (.iconst 2, 1) := by decide +kernel
theorem dX0_unlikePlaces_8 : decode cX0_unlikePlaces 8 = .ok (.if_icmp .ge 5, 3) := by decide +kernel
theorem dX0_unlikePlaces_11 : decode cX0_unlikePlaces 11 = .ok (.iconst 0, 1) := by decide +kernel
theorem dX0_unlikePlaces_12 : decode cX0_unlikePlaces 12 = .ok (.ireturn, 1) := by decide +kernel
theorem dX0_unlikePlaces_13 : decode cX0_unlikePlaces 13 = .ok (.iload_n 1, 1) := by decide +kernel
theorem dX0_unlikePlaces_14 : decode cX0_unlikePlaces 14 = .ok (.istore_n 3, 1) := by decide +kernel
theorem dX0_unlikePlaces_15 : decode cX0_unlikePlaces 15 = .ok (.iload_n 2, 1) := by decide +kernel
theorem dX0_unlikePlaces_16 : decode cX0_unlikePlaces 16 = .ok (.istore 4, 2) := by decide +kernel
theorem dX0_unlikePlaces_18 : decode cX0_unlikePlaces 18 = .ok (.iconst 0, 1) := by decide +kernel
theorem dX0_unlikePlaces_19 : decode cX0_unlikePlaces 19 = .ok (.istore 5, 2) := by decide +kernel
theorem dX0_unlikePlaces_21 : decode cX0_unlikePlaces 21 = .ok (.aload_n 0, 1) := by decide +kernel
theorem dX0_unlikePlaces_22 : decode cX0_unlikePlaces 22 = .ok (.getfield 12, 3) := by decide +kernel
theorem dX0_unlikePlaces_25 : decode cX0_unlikePlaces 25 = .ok (.getfield 67, 3) := by decide +kernel
theorem dX0_unlikePlaces_28 : decode cX0_unlikePlaces 28 = .ok (.iconst 1, 1) := by decide +kernel
theorem dX0_unlikePlaces_29 : decode cX0_unlikePlaces 29 = .ok (.isub, 1) := by decide +kernel
theorem dX0_unlikePlaces_30 : decode cX0_unlikePlaces 30 = .ok (.istore 6, 2) := by decide +kernel
theorem dX0_unlikePlaces_32 : decode cX0_unlikePlaces 32 = .ok (.iload 6, 2) := by decide +kernel
theorem dX0_unlikePlaces_34 : decode cX0_unlikePlaces 34 = .ok (.ifCond .lt 62, 3) := by decide +kernel
theorem dX0_unlikePlaces_37 : decode cX0_unlikePlaces 37 = .ok (.iload_n 3, 1) := by decide +kernel
theorem dX0_unlikePlaces_38 : decode cX0_unlikePlaces 38 = .ok (.aload_n 0, 1) := by decide +kernel
theorem dX0_unlikePlaces_39 : decode cX0_unlikePlaces 39 = .ok (.getfield 12, 3) := by decide +kernel
theorem dX0_unlikePlaces_42 : decode cX0_unlikePlaces 42 = .ok (.getfield 70, 3) := by decide +kernel
theorem dX0_unlikePlaces_45 : decode cX0_unlikePlaces 45 = .ok (.irem, 1) := by decide +kernel
theorem dX0_unlikePlaces_46 : decode cX0_unlikePlaces 46 = .ok (.iload 4, 2) := by decide +kernel
theorem dX0_unlikePlaces_48 : decode cX0_unlikePlaces 48 = .ok (.aload_n 0, 1) := by decide +kernel
theorem dX0_unlikePlaces_49 : decode cX0_unlikePlaces 49 = .ok (.getfield 12, 3) := by decide +kernel
theorem dX0_unlikePlaces_52 : decode cX0_unlikePlaces 52 = .ok (.getfield 70, 3) := by decide +kernel
theorem dX0_unlikePlaces_55 : decode cX0_unlikePlaces 55 = .ok (.irem, 1) := by decide +kernel
theorem dX0_unlikePlaces_56 : decode cX0_unlikePlaces 56 = .ok (.if_icmp .eq 12, 3) := by decide +kernel
theorem dX0_unlikePlaces_59 : decode cX0_unlikePlaces 59 = .ok (.iload 5, 2) := by decide +kernel
theorem dX0_unlikePlaces_61 : decode cX0_unlikePlaces 61 = .ok (.iconst 1, 1) := by decide +kernel
theorem dX0_unlikePlaces_62 : decode cX0_unlikePlaces 62 = .ok (.iload 6, 2) := by decide +kernel
theorem dX0_unlikePlaces_64 : decode cX0_unlikePlaces 64 = .ok (.ishl, 1) := by decide +kernel
theorem dX0_unlikePlaces_65 : decode cX0_unlikePlaces 65 = .ok (.ior, 1) := by decide +kernel
theorem dX0_unlikePlaces_66 : decode cX0_unlikePlaces 66 = .ok (.istore 5, 2) := by decide +kernel
theorem dX0_unlikePlaces_68 : decode cX0_unlikePlaces 68 = .ok (.iload_n 3, 1) := by decide +kernel
theorem dX0_unlikePlaces_69 : decode cX0_unlikePlaces 69 = .ok (.aload_n 0, 1) := by decide +kernel
theorem dX0_unlikePlaces_70 : decode cX0_unlikePlaces 70 = .ok (.getfield 12, 3) := by decide +kernel
theorem dX0_unlikePlaces_73 : decode cX0_unlikePlaces 73 = .ok (.getfield 70, 3) := by decide +kernel
theorem dX0_unlikePlaces_76 : decode cX0_unlikePlaces 76 = .ok (.idiv, 1) := by decide +kernel
theorem dX0_unlikePlaces_77 : decode cX0_unlikePlaces 77 = .ok (.istore_n 3, 1) := by decide +kernel
theorem dX0_unlikePlaces_78 : decode cX0_unlikePlaces 78 = .ok (.iload 4, 2) := by decide +kernel
theorem dX0_unlikePlaces_80 : decode cX0_unlikePlaces 80 = .ok (.aload_n 0, 1) := by decide +kernel
theorem dX0_unlikePlaces_81 : decode cX0_unlikePlaces 81 = .ok (.getfield 12, 3) := by decide +kernel
theorem dX0_unlikePlaces_84 : decode cX0_unlikePlaces 84 = .ok (.getfield 70, 3) := by decide +kernel
theorem dX0_unlikePlaces_87 : decode cX0_unlikePlaces 87 = .ok (.idiv, 1) := by decide +kernel
theorem dX0_unlikePlaces_88 : decode cX0_unlikePlaces 88 = .ok (.istore 4, 2) := by decide +kernel
theorem dX0_unlikePlaces_90 : decode cX0_unlikePlaces 90 = .ok (.iinc 6 (-1), 3) := by decide +kernel
theorem dX0_unlikePlaces_93 : decode cX0_unlikePlaces 93 = .ok (.goto (-61), 3) := by decide +kernel
theorem dX0_unlikePlaces_96 : decode cX0_unlikePlaces 96 = .ok (.iload 5, 2) := by decide +kernel
theorem dX0_unlikePlaces_98 : decode cX0_unlikePlaces 98 = .ok (.ireturn, 1) := by decide +kernel
theorem dX0_numberIn_0 : decode cX0_numberIn 0 = .ok (.aload_n 0, 1) := by decide +kernel
theorem dX0_numberIn_1 : decode cX0_numberIn 1 = .ok (.getfield 12, 3) := by decide +kernel
theorem dX0_numberIn_4 : decode cX0_numberIn 4 = .ok (.getfield 70, 3) := by decide +kernel
theorem dX0_numberIn_7 : decode cX0_numberIn 7 = .ok (.iconst 2, 1) := by decide +kernel
theorem dX0_numberIn_8 : decode cX0_numberIn 8 = .ok (.if_icmp .ge 5, 3) := by decide +kernel
theorem dX0_numberIn_11 : decode cX0_numberIn 11 = .ok (.iconst 0, 1) := by decide +kernel
theorem dX0_numberIn_12 : decode cX0_numberIn 12 = .ok (.ireturn, 1) := by decide +kernel
theorem dX0_numberIn_13 : decode cX0_numberIn 13 = .ok (.iload_n 1, 1) := by decide +kernel
theorem dX0_numberIn_14 : decode cX0_numberIn 14 = .ok (.istore_n 3, 1) := by decide +kernel
theorem dX0_numberIn_15 : decode cX0_numberIn 15 = .ok (.aload_n 0, 1) := by decide +kernel
theorem dX0_numberIn_16 : decode cX0_numberIn 16 = .ok (.getfield 12, 3) := by decide +kernel
theorem dX0_numberIn_19 : decode cX0_numberIn 19 = .ok (.getfield 67, 3) := by decide +kernel
theorem dX0_numberIn_22 : decode cX0_numberIn 22 = .ok (.iconst 1, 1) := by decide +kernel
theorem dX0_numberIn_23 : decode cX0_numberIn 23 = .ok (.isub, 1) := by decide +kernel
theorem dX0_numberIn_24 : decode cX0_numberIn 24 = .ok (.istore 4, 2) := by decide +kernel
theorem dX0_numberIn_26 : decode cX0_numberIn 26 = .ok (.iload 4, 2) := by decide +kernel
theorem dX0_numberIn_28 : decode cX0_numberIn 28 = .ok (.iload_n 2, 1) := by decide +kernel
theorem dX0_numberIn_29 : decode cX0_numberIn 29 = .ok (.if_icmp .le 19, 3) := by decide +kernel
theorem dX0_numberIn_32 : decode cX0_numberIn 32 = .ok (.iload_n 3, 1) := by decide +kernel
theorem dX0_numberIn_33 : decode cX0_numberIn 33 = .ok (.aload_n 0, 1) := by decide +kernel
theorem dX0_numberIn_34 : decode cX0_numberIn 34 = .ok (.getfield 12, 3) := by decide +kernel
theorem dX0_numberIn_37 : decode cX0_numberIn 37 = .ok (.getfield 70, 3) := by decide +kernel
theorem dX0_numberIn_40 : decode cX0_numberIn 40 = .ok (.idiv, 1) := by decide +kernel
theorem dX0_numberIn_41 : decode cX0_numberIn 41 = .ok (.istore_n 3, 1) := by decide +kernel
theorem dX0_numberIn_42 : decode cX0_numberIn 42 = .ok (.iinc 4 (-1), 3) := by decide +kernel
theorem dX0_numberIn_45 : decode cX0_numberIn 45 = .ok (.goto (-19), 3) := by decide +kernel
theorem dX0_numberIn_48 : decode cX0_numberIn 48 = .ok (.iload_n 3, 1) := by decide +kernel
theorem dX0_numberIn_49 : decode cX0_numberIn 49 = .ok (.aload_n 0, 1) := by decide +kernel
theorem dX0_numberIn_50 : decode cX0_numberIn 50 = .ok (.getfield 12, 3) := by decide +kernel
theorem dX0_numberIn_53 : decode cX0_numberIn 53 = .ok (.getfield 70, 3) := by decide +kernel
theorem dX0_numberIn_56 : decode cX0_numberIn 56 = .ok (.irem, 1) := by decide +kernel
theorem dX0_numberIn_57 : decode cX0_numberIn 57 = .ok (.ireturn, 1) := by decide +kernel
theorem dX1_init_0 : decode cX1_init 0 = .ok (.aload_n 0, 1) := by decide +kernel
theorem dX1_init_1 : decode cX1_init 1 = .ok (.invokespecial 3, 3) := by decide +kernel
theorem dX1_init_4 : decode cX1_init 4 = .ok (.aload_n 0, 1) := by decide +kernel
theorem dX1_init_5 : decode cX1_init 5 = .ok (.bipush (-9), 2) := by decide +kernel
theorem dX1_init_7 : decode cX1_init 7 = .ok (.putfield 9, 3) := by decide +kernel
theorem dX1_init_10 : decode cX1_init 10 = .ok (.aload_n 0, 1) := by decide +kernel
theorem dX1_init_11 : decode cX1_init 11 = .ok (.iconst 0, 1) := by decide +kernel
theorem dX1_init_12 : decode cX1_init 12 = .ok (.putfield 15, 3) := by decide +kernel
theorem dX1_init_15 : decode cX1_init 15 = .ok (.aload_n 0, 1) := by decide +kernel
theorem dX1_init_16 : decode cX1_init 16 = .ok (.iconst 0, 1) := by decide +kernel
theorem dX1_init_17 : decode cX1_init 17 = .ok (.putfield 18, 3) := by decide +kernel
theorem dX1_init_20 : decode cX1_init 20 = .ok (.return_, 1) := by decide +kernel
theorem dX1_areActs_0 : decode cX1_areActs 0 = .ok (.iconst 0, 1) := by decide +kernel
theorem dX1_areActs_1 : decode cX1_areActs 1 = .ok (.istore_n 3, 1) := by decide +kernel
theorem dX1_areActs_2 : decode cX1_areActs 2 = .ok (.iload_n 3, 1) := by decide +kernel
theorem dX1_areActs_3 : decode cX1_areActs 3 = .ok (.iload_n 2, 1) := by decide +kernel
theorem dX1_areActs_4 : decode cX1_areActs 4 = .ok (.if_icmp .ge 45, 3) := by decide +kernel
theorem dX1_areActs_7 : decode cX1_areActs 7 = .ok (.aload_n 0, 1) := by decide +kernel
theorem dX1_areActs_8 : decode cX1_areActs 8 = .ok (.iload_n 1, 1) := by decide +kernel
theorem dX1_areActs_9 : decode cX1_areActs 9 = .ok (.iconst 2, 1) := by decide +kernel
theorem dX1_areActs_10 : decode cX1_areActs 10 = .ok (.iload_n 3, 1) := by decide +kernel
theorem dX1_areActs_11 : decode cX1_areActs 11 = .ok (.imul, 1) := by decide +kernel
theorem dX1_areActs_12 : decode cX1_areActs 12 = .ok (.iadd, 1) := by decide +kernel
theorem dX1_areActs_13 : decode cX1_areActs 13 = .ok (.invokevirtual 21, 3) := by decide +kernel
theorem dX1_areActs_16 : decode cX1_areActs 16 = .ok (.istore 4, 2) := by decide +kernel
theorem dX1_areActs_18 : decode cX1_areActs 18 = .ok (.aload_n 0, 1) := by decide +kernel
theorem dX1_areActs_19 : decode cX1_areActs 19 = .ok (.iload_n 1, 1) := by decide +kernel
theorem dX1_areActs_20 : decode cX1_areActs 20 = .ok (.iconst 2, 1) := by decide +kernel
theorem dX1_areActs_21 : decode cX1_areActs 21 = .ok (.iload_n 3, 1) := by decide +kernel
theorem dX1_areActs_22 : decode cX1_areActs 22 = .ok (.imul, 1) := by decide +kernel
theorem dX1_areActs_23 : decode cX1_areActs 23 = .ok (.iadd, 1) := by decide +kernel
theorem dX1_areActs_24 : decode cX1_areActs 24 = .ok (.iconst 1, 1) := by decide +kernel
theorem dX1_areActs_25 : decode cX1_areActs 25 = .ok (.iadd, 1) := by decide +kernel
theorem dX1_areActs_26 : decode cX1_areActs 26 = .ok (.invokevirtual 21, 3) := by decide +kernel
theorem dX1_areActs_29 : decode cX1_areActs 29 = .ok (.istore 5, 2) := by decide +kernel
theorem dX1_areActs_31 : decode cX1_areActs 31 = .ok (.iload 4, 2) := by decide +kernel
theorem dX1_areActs_33 : decode cX1_areActs 33 = .ok (.iload 5, 2) := by decide +kernel
theorem dX1_areActs_35 : decode cX1_areActs 35 = .ok (.invokestatic 27, 3) := by decide +kernel
theorem dX1_areActs_38 : decode cX1_areActs 38 = .ok (.ifCond .ne 5, 3) := by decide +kernel
theorem dX1_areActs_41 : decode cX1_areActs 41 = .ok (.iconst 0, 1) := by decide +kernel
theorem dX1_areActs_42 : decode cX1_areActs 42 = .ok (.ireturn, 1) := by decide +kernel
theorem dX1_areActs_43 : decode cX1_areActs 43 = .ok (.iinc 3 1, 3) := by decide +kernel
theorem dX1_areActs_46 : decode cX1_areActs 46 = .ok (.goto (-44), 3) := by decide +kernel
theorem dX1_areActs_49 : decode cX1_areActs 49 = .ok (.iconst 1, 1) := by decide +kernel
theorem dX1_areActs_50 : decode cX1_areActs 50 = .ok (.ireturn, 1) := by decide +kernel
theorem dX1_isAct_0 : decode cX1_isAct 0 = .ok (.iload_n 1, 1) := by decide +kernel
theorem dX1_isAct_1 : decode cX1_isAct 1 = .ok (.bipush 9, 2) := by decide +kernel
theorem dX1_isAct_3 : decode cX1_isAct 3 = .ok (.if_icmp .ne 19, 3) := by decide +kernel
theorem dX1_isAct_6 : decode cX1_isAct 6 = .ok (.iload_n 0, 1) := by decide +kernel
theorem dX1_isAct_7 : decode cX1_isAct 7 = .ok (.ifCond .lt 13, 3) := by decide +kernel
theorem dX1_isAct_10 : decode cX1_isAct 10 = .ok (.iload_n 0, 1) := by decide +kernel
theorem dX1_isAct_11 : decode cX1_isAct 11 = .ok (.bipush 99, 2) := by decide +kernel
theorem dX1_isAct_13 : decode cX1_isAct 13 = .ok (.if_icmp .gt 7, 3) := by decide +kernel
theorem dX1_isAct_16 : decode cX1_isAct 16 = .ok (.iconst 1, 1) := by decide +kernel
theorem dX1_isAct_17 : decode cX1_isAct 17 = .ok (.goto 4, 3) := by decide +kernel
theorem dX1_isAct_20 : decode cX1_isAct 20 = .ok (.iconst 0, 1) := by decide +kernel
theorem dX1_isAct_21 : decode cX1_isAct 21 = .ok (.ireturn, 1) := by decide +kernel
theorem dX1_isAct_22 : decode cX1_isAct 22 = .ok (.iload_n 1, 1) := by decide +kernel
theorem dX1_isAct_23 : decode cX1_isAct 23 = .ok (.ifCond .lt 22, 3) := by decide +kernel
theorem dX1_isAct_26 : decode cX1_isAct 26 = .ok (.iload_n 1, 1) := by decide +kernel
theorem dX1_isAct_27 : decode cX1_isAct 27 = .ok (.iconst 5, 1) := by decide +kernel
theorem dX1_isAct_28 : decode cX1_isAct 28 = .ok (.if_icmp .ge 17, 3) := by decide +kernel
theorem dX1_isAct_31 : decode cX1_isAct 31 = .ok (.iload_n 0, 1) := by decide +kernel
theorem dX1_isAct_32 : decode cX1_isAct 32 = .ok (.ifCond .lt 13, 3) := by decide +kernel
theorem dX1_isAct_35 : decode cX1_isAct 35 = .ok (.iload_n 0, 1) := by decide +kernel
theorem dX1_isAct_36 : decode cX1_isAct 36 = .ok (.bipush 6, 2) := by decide +kernel
theorem dX1_isAct_38 : decode cX1_isAct 38 = .ok (.if_icmp .ge 7, 3) := by decide +kernel
theorem dX1_isAct_41 : decode cX1_isAct 41 = .ok (.iconst 1, 1) := by decide +kernel
theorem dX1_isAct_42 : decode cX1_isAct 42 = .ok (.goto 4, 3) := by decide +kernel
theorem dX1_isAct_45 : decode cX1_isAct 45 = .ok (.iconst 0, 1) := by decide +kernel
theorem dX1_isAct_46 : decode cX1_isAct 46 = .ok (.ireturn, 1) := by decide +kernel
theorem dX1_play_0 : decode cX1_play 0 = .ok (.aload_n 0, 1) := by decide +kernel
theorem dX1_play_1 : decode cX1_play 1 = .ok (.bipush (-9), 2) := by decide +kernel
theorem dX1_play_3 : decode cX1_play 3 = .ok (.putfield 9, 3) := by decide +kernel
theorem dX1_play_6 : decode cX1_play 6 = .ok (.aload_n 0, 1) := by decide +kernel
theorem dX1_play_7 : decode cX1_play 7 = .ok (.iconst 0, 1) := by decide +kernel
theorem dX1_play_8 : decode cX1_play 8 = .ok (.putfield 15, 3) := by decide +kernel
theorem dX1_play_11 : decode cX1_play 11 = .ok (.aload_n 0, 1) := by decide +kernel
theorem dX1_play_12 : decode cX1_play 12 = .ok (.iconst 0, 1) := by decide +kernel
theorem dX1_play_13 : decode cX1_play 13 = .ok (.putfield 18, 3) := by decide +kernel
theorem dX1_play_16 : decode cX1_play 16 = .ok (.iconst 0, 1) := by decide +kernel
theorem dX1_play_17 : decode cX1_play 17 = .ok (.istore 5, 2) := by decide +kernel
theorem dX1_play_19 : decode cX1_play 19 = .ok (.iload 5, 2) := by decide +kernel
theorem dX1_play_21 : decode cX1_play 21 = .ok (.iload 4, 2) := by decide +kernel
theorem dX1_play_23 : decode cX1_play 23 = .ok (.if_icmp .ge 74, 3) := by decide +kernel
theorem dX1_play_26 : decode cX1_play 26 = .ok (.aload_n 0, 1) := by decide +kernel
theorem dX1_play_27 : decode cX1_play 27 = .ok (.getfield 9, 3) := by decide +kernel
theorem dX1_play_30 : decode cX1_play 30 = .ok (.bipush (-9), 2) := by decide +kernel
theorem dX1_play_32 : decode cX1_play 32 = .ok (.if_icmp .ne 65, 3) := by decide +kernel
theorem dX1_play_35 : decode cX1_play 35 = .ok (.aload_n 0, 1) := by decide +kernel
theorem dX1_play_36 : decode cX1_play 36 = .ok (.aload_n 1, 1) := by decide +kernel
theorem dX1_play_37 : decode cX1_play 37 = .ok (.aload_n 2, 1) := by decide +kernel
theorem dX1_play_38 : decode cX1_play 38 = .ok (.iload_n 3, 1) := by decide +kernel
theorem dX1_play_39 : decode cX1_play 39 = .ok (.iconst 2, 1) := by decide +kernel
theorem dX1_play_40 : decode cX1_play 40 = .ok (.iload 5, 2) := by decide +kernel
theorem dX1_play_42 : decode cX1_play 42 = .ok (.imul, 1) := by decide +kernel
theorem dX1_play_43 : decode cX1_play 43 = .ok (.iadd, 1) := by decide +kernel
theorem dX1_play_44 : decode cX1_play 44 = .ok (.invokevirtual 21, 3) := by decide +kernel
theorem dX1_play_47 : decode cX1_play 47 = .ok (.aload_n 2, 1) := by decide +kernel
theorem dX1_play_48 : decode cX1_play 48 = .ok (.iload_n 3, 1) := by decide +kernel
theorem dX1_play_49 : decode cX1_play 49 = .ok (.iconst 2, 1) := by decide +kernel
theorem dX1_play_50 : decode cX1_play 50 = .ok (.iload 5, 2) := by decide +kernel
theorem dX1_play_52 : decode cX1_play 52 = .ok (.imul, 1) := by decide +kernel
theorem dX1_play_53 : decode cX1_play 53 = .ok (.iadd, 1) := by decide +kernel
theorem dX1_play_54 : decode cX1_play 54 = .ok (.iconst 1, 1) := by decide +kernel
theorem dX1_play_55 : decode cX1_play 55 = .ok (.iadd, 1) := by decide +kernel
theorem dX1_play_56 : decode cX1_play 56 = .ok (.invokevirtual 21, 3) := by decide +kernel
theorem dX1_play_59 : decode cX1_play 59 = .ok (.invokevirtual 31, 3) := by decide +kernel
theorem dX1_play_62 : decode cX1_play 62 = .ok (.ifCond .ne 12, 3) := by decide +kernel
theorem dX1_play_65 : decode cX1_play 65 = .ok (.aload_n 0, 1) := by decide +kernel
theorem dX1_play_66 : decode cX1_play 66 = .ok (.iload 5, 2) := by decide +kernel
theorem dX1_play_68 : decode cX1_play 68 = .ok (.putfield 9, 3) := by decide +kernel
theorem dX1_play_71 : decode cX1_play 71 = .ok (.goto 20, 3) := by decide +kernel
theorem dX1_play_74 : decode cX1_play 74 = .ok (.aload_n 1, 1) := by decide +kernel
theorem dX1_play_75 : decode cX1_play 75 = .ok (.invokevirtual 35, 3) := by decide +kernel
theorem dX1_play_78 : decode cX1_play 78 = .ok (.ifCond .eq 13, 3) := by decide +kernel
theorem dX1_play_81 : decode cX1_play 81 = .ok (.aload_n 0, 1) := by decide +kernel
theorem dX1_play_82 : decode cX1_play 82 = .ok (.dup, 1) := by decide +kernel
theorem dX1_play_83 : decode cX1_play 83 = .ok (.getfield 18, 3) := by decide +kernel
theorem dX1_play_86 : decode cX1_play 86 = .ok (.iconst 1, 1) := by decide +kernel
theorem dX1_play_87 : decode cX1_play 87 = .ok (.iadd, 1) := by decide +kernel
theorem dX1_play_88 : decode cX1_play 88 = .ok (.putfield 18, 3) := by decide +kernel
theorem dX1_play_91 : decode cX1_play 91 = .ok (.iinc 5 1, 3) := by decide +kernel
theorem dX1_play_94 : decode cX1_play 94 = .ok (.goto (-75), 3) := by decide +kernel
theorem dX1_play_97 : decode cX1_play 97 = .ok (.return_, 1) := by decide +kernel
theorem dX1_canDo_0 : decode cX1_canDo 0 = .ok (.iload_n 3, 1) := by decide +kernel
theorem dX1_canDo_1 : decode cX1_canDo 1 = .ok (.bipush 9, 2) := by decide +kernel
theorem dX1_canDo_3 : decode cX1_canDo 3 = .ok (.if_icmp .ne 20, 3) := by decide +kernel
theorem dX1_canDo_6 : decode cX1_canDo 6 = .ok (.aload_n 1, 1) := by decide +kernel
theorem dX1_canDo_7 : decode cX1_canDo 7 = .ok (.iload_n 2, 1) := by decide +kernel
theorem dX1_canDo_8 : decode cX1_canDo 8 = .ok (.invokevirtual 41, 3) := by decide +kernel
theorem dX1_canDo_11 : decode cX1_canDo 11 = .ok (.aload_n 0, 1) := by decide +kernel
theorem dX1_canDo_12 : decode cX1_canDo 12 = .ok (.dup, 1) := by decide +kernel
theorem dX1_canDo_13 : decode cX1_canDo 13 = .ok (.getfield 15, 3) := by decide +kernel
theorem dX1_canDo_16 : decode cX1_canDo 16 = .ok (.iload_n 2, 1) := by decide +kernel
theorem dX1_canDo_17 : decode cX1_canDo 17 = .ok (.iadd, 1) := by decide +kernel
theorem dX1_canDo_18 : decode cX1_canDo 18 = .ok (.putfield 15, 3) := by decide +kernel
theorem dX1_canDo_21 : decode cX1_canDo 21 = .ok (.iconst 1, 1) := by decide +kernel
theorem dX1_canDo_22 : decode cX1_canDo 22 = .ok (.ireturn, 1) := by decide +kernel
theorem dX1_canDo_23 : decode cX1_canDo 23 = .ok (.aload_n 1, 1) := by decide +kernel
theorem dX1_canDo_24 : decode cX1_canDo 24 = .ok (.iload_n 3, 1) := by decide +kernel
theorem dX1_canDo_25 : decode cX1_canDo 25 = .ok (.invokevirtual 45, 3) := by decide +kernel
theorem dX1_canDo_28 : decode cX1_canDo 28 = .ok (.ifCond .eq 11, 3) := by decide +kernel
theorem dX1_canDo_31 : decode cX1_canDo 31 = .ok (.aload_n 1, 1) := by decide +kernel
theorem dX1_canDo_32 : decode cX1_canDo 32 = .ok (.iload_n 2, 1) := by decide +kernel
theorem dX1_canDo_33 : decode cX1_canDo 33 = .ok (.invokevirtual 49, 3) := by decide +kernel
theorem dX1_canDo_36 : decode cX1_canDo 36 = .ok (.ifCond .ne 5, 3) := by decide +kernel
theorem dX1_canDo_39 : decode cX1_canDo 39 = .ok (.iconst 0, 1) := by decide +kernel
theorem dX1_canDo_40 : decode cX1_canDo 40 = .ok (.ireturn, 1) := by decide +kernel
theorem dX1_canDo_41 : decode cX1_canDo 41 = .ok (.aload_n 1, 1) := by decide +kernel
theorem dX1_canDo_42 : decode cX1_canDo 42 = .ok (.getfield 52, 3) := by decide +kernel
theorem dX1_canDo_45 : decode cX1_canDo 45 = .ok (.iload_n 3, 1) := by decide +kernel
theorem dX1_canDo_46 : decode cX1_canDo 46 = .ok (.iload_n 2, 1) := by decide +kernel
theorem dX1_canDo_47 : decode cX1_canDo 47 = .ok (.iastore, 1) := by decide +kernel
theorem dX1_canDo_48 : decode cX1_canDo 48 = .ok (.iconst 1, 1) := by decide +kernel
theorem dX1_canDo_49 : decode cX1_canDo 49 = .ok (.ireturn, 1) := by decide +kernel
theorem dX2_init_0 : decode cX2_init 0 = .ok (.aload_n 0, 1) := by decide +kernel
theorem dX2_init_1 : decode cX2_init 1 = .ok (.invokespecial 3, 3) := by decide +kernel
theorem dX2_init_4 : decode cX2_init 4 = .ok (.aload_n 0, 1) := by decide +kernel
theorem dX2_init_5 : decode cX2_init 5 = .ok (.bipush 8, 2) := by decide +kernel
theorem dX2_init_7 : decode cX2_init 7 = .ok (.newarray .int, 2) := by decide +kernel
theorem dX2_init_9 : decode cX2_init 9 = .ok (.putfield 9, 3) := by decide +kernel
theorem dX2_init_12 : decode cX2_init 12 = .ok (.aload_n 0, 1) := by decide +kernel
theorem dX2_init_13 : decode cX2_init 13 = .ok (.bipush 8, 2) := by decide +kernel
theorem dX2_init_15 : decode cX2_init 15 = .ok (.newarray .int, 2) := by decide +kernel
theorem dX2_init_17 : decode cX2_init 17 = .ok (.putfield 15, 3) := by decide +kernel
theorem dX2_init_20 : decode cX2_init 20 = .ok (.aload_n 0, 1) := by decide +kernel
theorem dX2_init_21 : decode cX2_init 21 = .ok (.bipush 8, 2) := by decide +kernel
theorem dX2_init_23 : decode cX2_init 23 = .ok (.newarray .int, 2) := by decide +kernel
theorem dX2_init_25 : decode cX2_init 25 = .ok (.putfield 18, 3) := by decide +kernel
theorem dX2_init_28 : decode cX2_init 28 = .ok (.aload_n 0, 1) := by decide +kernel
theorem dX2_init_29 : decode cX2_init 29 = .ok (.iconst 0, 1) := by decide +kernel
theorem dX2_init_30 : decode cX2_init 30 = .ok (.putfield 21, 3) := by decide +kernel
theorem dX2_init_33 : decode cX2_init 33 = .ok (.return_, 1) := by decide +kernel
theorem dX2_keep_0 : decode cX2_keep 0 = .ok (.aload_n 0, 1) := by decide +kernel
theorem dX2_keep_1 : decode cX2_keep 1 = .ok (.getfield 21, 3) := by decide +kernel
theorem dX2_keep_4 : decode cX2_keep 4 = .ok (.bipush 8, 2) := by decide +kernel
theorem dX2_keep_6 : decode cX2_keep 6 = .ok (.if_icmp .lt 6, 3) := by decide +kernel
theorem dX2_keep_9 : decode cX2_keep 9 = .ok (.bipush (-4), 2) := by decide +kernel
theorem dX2_keep_11 : decode cX2_keep 11 = .ok (.ireturn, 1) := by decide +kernel
theorem dX2_keep_12 : decode cX2_keep 12 = .ok (.aload_n 0, 1) := by decide +kernel
theorem dX2_keep_13 : decode cX2_keep 13 = .ok (.getfield 9, 3) := by decide +kernel
theorem dX2_keep_16 : decode cX2_keep 16 = .ok (.aload_n 0, 1) := by decide +kernel
theorem dX2_keep_17 : decode cX2_keep 17 = .ok (.getfield 21, 3) := by decide +kernel
theorem dX2_keep_20 : decode cX2_keep 20 = .ok (.iload_n 1, 1) := by decide +kernel
theorem dX2_keep_21 : decode cX2_keep 21 = .ok (.iastore, 1) := by decide +kernel
theorem dX2_keep_22 : decode cX2_keep 22 = .ok (.aload_n 0, 1) := by decide +kernel
theorem dX2_keep_23 : decode cX2_keep 23 = .ok (.getfield 15, 3) := by decide +kernel
theorem dX2_keep_26 : decode cX2_keep 26 = .ok (.aload_n 0, 1) := by decide +kernel
theorem dX2_keep_27 : decode cX2_keep 27 = .ok (.getfield 21, 3) := by decide +kernel
theorem dX2_keep_30 : decode cX2_keep 30 = .ok (.iload_n 2, 1) := by decide +kernel
theorem dX2_keep_31 : decode cX2_keep 31 = .ok (.iastore, 1) := by decide +kernel
theorem dX2_keep_32 : decode cX2_keep 32 = .ok (.aload_n 0, 1) := by decide +kernel
theorem dX2_keep_33 : decode cX2_keep 33 = .ok (.getfield 18, 3) := by decide +kernel
theorem dX2_keep_36 : decode cX2_keep 36 = .ok (.aload_n 0, 1) := by decide +kernel
theorem dX2_keep_37 : decode cX2_keep 37 = .ok (.getfield 21, 3) := by decide +kernel
theorem dX2_keep_40 : decode cX2_keep 40 = .ok (.iload_n 3, 1) := by decide +kernel
theorem dX2_keep_41 : decode cX2_keep 41 = .ok (.iastore, 1) := by decide +kernel
theorem dX2_keep_42 : decode cX2_keep 42 = .ok (.aload_n 0, 1) := by decide +kernel
theorem dX2_keep_43 : decode cX2_keep 43 = .ok (.dup, 1) := by decide +kernel
theorem dX2_keep_44 : decode cX2_keep 44 = .ok (.getfield 21, 3) := by decide +kernel
theorem dX2_keep_47 : decode cX2_keep 47 = .ok (.iconst 1, 1) := by decide +kernel
theorem dX2_keep_48 : decode cX2_keep 48 = .ok (.iadd, 1) := by decide +kernel
theorem dX2_keep_49 : decode cX2_keep 49 = .ok (.putfield 21, 3) := by decide +kernel
theorem dX2_keep_52 : decode cX2_keep 52 = .ok (.aload_n 0, 1) := by decide +kernel
theorem dX2_keep_53 : decode cX2_keep 53 = .ok (.getfield 21, 3) := by decide +kernel
theorem dX2_keep_56 : decode cX2_keep 56 = .ok (.iconst 1, 1) := by decide +kernel
theorem dX2_keep_57 : decode cX2_keep 57 = .ok (.isub, 1) := by decide +kernel
theorem dX2_keep_58 : decode cX2_keep 58 = .ok (.ireturn, 1) := by decide +kernel
theorem dX2_areSo_0 : decode cX2_areSo 0 = .ok (.aload_n 0, 1) := by decide +kernel
theorem dX2_areSo_1 : decode cX2_areSo 1 = .ok (.invokevirtual 25, 3) := by decide +kernel
theorem dX2_areSo_4 : decode cX2_areSo 4 = .ok (.istore_n 2, 1) := by decide +kernel
theorem dX2_areSo_5 : decode cX2_areSo 5 = .ok (.iconst 0, 1) := by decide +kernel
theorem dX2_areSo_6 : decode cX2_areSo 6 = .ok (.istore_n 3, 1) := by decide +kernel
theorem dX2_areSo_7 : decode cX2_areSo 7 = .ok (.iload_n 3, 1) := by decide +kernel
theorem dX2_areSo_8 : decode cX2_areSo 8 = .ok (.iload_n 2, 1) := by decide +kernel
theorem dX2_areSo_9 : decode cX2_areSo 9 = .ok (.if_icmp .gt 25, 3) := by decide +kernel
theorem dX2_areSo_12 : decode cX2_areSo 12 = .ok (.aload_n 0, 1) := by decide +kernel
theorem dX2_areSo_13 : decode cX2_areSo 13 = .ok (.iload_n 3, 1) := by decide +kernel
theorem dX2_areSo_14 : decode cX2_areSo 14 = .ok (.aload_n 1, 1) := by decide +kernel
theorem dX2_areSo_15 : decode cX2_areSo 15 = .ok (.invokevirtual 29, 3) := by decide +kernel
theorem dX2_areSo_18 : decode cX2_areSo 18 = .ok (.ifCond .ne 5, 3) := by decide +kernel
theorem dX2_areSo_21 : decode cX2_areSo 21 = .ok (.iconst 0, 1) := by decide +kernel
theorem dX2_areSo_22 : decode cX2_areSo 22 = .ok (.ireturn, 1) := by decide +kernel
theorem dX2_areSo_23 : decode cX2_areSo 23 = .ok (.aload_n 1, 1) := by decide +kernel
theorem dX2_areSo_24 : decode cX2_areSo 24 = .ok (.iconst 1, 1) := by decide +kernel
theorem dX2_areSo_25 : decode cX2_areSo 25 = .ok (.invokevirtual 33, 3) := by decide +kernel
theorem dX2_areSo_28 : decode cX2_areSo 28 = .ok (.iinc 3 1, 3) := by decide +kernel
theorem dX2_areSo_31 : decode cX2_areSo 31 = .ok (.goto (-24), 3) := by decide +kernel
theorem dX2_areSo_34 : decode cX2_areSo 34 = .ok (.iconst 1, 1) := by decide +kernel
theorem dX2_areSo_35 : decode cX2_areSo 35 = .ok (.ireturn, 1) := by decide +kernel
theorem dX2_lastTime_0 : decode cX2_lastTime 0 = .ok (.iconst 0, 1) := by decide +kernel
theorem dX2_lastTime_1 : decode cX2_lastTime 1 = .ok (.istore_n 1, 1) := by decide +kernel
theorem dX2_lastTime_2 : decode cX2_lastTime 2 = .ok (.iconst 0, 1) := by decide +kernel
theorem dX2_lastTime_3 : decode cX2_lastTime 3 = .ok (.istore_n 2, 1) := by decide +kernel
theorem dX2_lastTime_4 : decode cX2_lastTime 4 = .ok (.iload_n 2, 1) := by decide +kernel
theorem dX2_lastTime_5 : decode cX2_lastTime 5 = .ok (.aload_n 0, 1) := by decide +kernel
theorem dX2_lastTime_6 : decode cX2_lastTime 6 = .ok (.getfield 21, 3) := by decide +kernel
theorem dX2_lastTime_9 : decode cX2_lastTime 9 = .ok (.if_icmp .ge 20, 3) := by decide +kernel
theorem dX2_lastTime_12 : decode cX2_lastTime 12 = .ok (.iload_n 1, 1) := by decide +kernel
theorem dX2_lastTime_13 : decode cX2_lastTime 13 = .ok (.aload_n 0, 1) := by decide +kernel
theorem dX2_lastTime_14 : decode cX2_lastTime 14 = .ok (.getfield 9, 3) := by decide +kernel
theorem dX2_lastTime_17 : decode cX2_lastTime 17 = .ok (.iload_n 2, 1) := by decide +kernel
theorem dX2_lastTime_18 : decode cX2_lastTime 18 = .ok (.iaload, 1) := by decide +kernel
theorem dX2_lastTime_19 : decode cX2_lastTime 19 = .ok (.invokestatic 39, 3) := by decide +kernel
theorem dX2_lastTime_22 : decode cX2_lastTime 22 = .ok (.istore_n 1, 1) := by decide +kernel
theorem dX2_lastTime_23 : decode cX2_lastTime 23 = .ok (.iinc 2 1, 3) := by decide +kernel
theorem dX2_lastTime_26 : decode cX2_lastTime 26 = .ok (.goto (-22), 3) := by decide +kernel
theorem dX2_lastTime_29 : decode cX2_lastTime 29 = .ok (.iload_n 1, 1) := by decide +kernel
theorem dX2_lastTime_30 : decode cX2_lastTime 30 = .ok (.ireturn, 1) := by decide +kernel
theorem dX2_areSoAt_0 : decode cX2_areSoAt 0 = .ok (.iconst 0, 1) := by decide +kernel
theorem dX2_areSoAt_1 : decode cX2_areSoAt 1 = .ok (.istore_n 3, 1) := by decide +kernel
theorem dX2_areSoAt_2 : decode cX2_areSoAt 2 = .ok (.iload_n 3, 1) := by decide +kernel
theorem dX2_areSoAt_3 : decode cX2_areSoAt 3 = .ok (.aload_n 0, 1) := by decide +kernel
theorem dX2_areSoAt_4 : decode cX2_areSoAt 4 = .ok (.getfield 21, 3) := by decide +kernel
theorem dX2_areSoAt_7 : decode cX2_areSoAt 7 = .ok (.if_icmp .ge 41, 3) := by decide +kernel
theorem dX2_areSoAt_10 : decode cX2_areSoAt 10 = .ok (.aload_n 0, 1) := by decide +kernel
theorem dX2_areSoAt_11 : decode cX2_areSoAt 11 = .ok (.getfield 9, 3) := by decide +kernel
theorem dX2_areSoAt_14 : decode cX2_areSoAt 14 = .ok (.iload_n 3, 1) := by decide +kernel
theorem dX2_areSoAt_15 : decode cX2_areSoAt 15 = .ok (.iaload, 1) := by decide +kernel
theorem dX2_areSoAt_16 : decode cX2_areSoAt 16 = .ok (.iload_n 1, 1) := by decide +kernel
theorem dX2_areSoAt_17 : decode cX2_areSoAt 17 = .ok (.if_icmp .ne 25, 3) := by decide +kernel
theorem dX2_areSoAt_20 : decode cX2_areSoAt 20 = .ok (.aload_n 2, 1) := by decide +kernel
theorem dX2_areSoAt_21 : decode cX2_areSoAt 21 = .ok (.getfield 45, 3) := by decide +kernel
theorem dX2_areSoAt_24 : decode cX2_areSoAt 24 = .ok (.aload_n 0, 1) := by decide +kernel
theorem dX2_areSoAt_25 : decode cX2_areSoAt 25 = .ok (.getfield 15, 3) := by decide +kernel
theorem dX2_areSoAt_28 : decode cX2_areSoAt 28 = .ok (.iload_n 3, 1) := by decide +kernel
theorem dX2_areSoAt_29 : decode cX2_areSoAt 29 = .ok (.iaload, 1) := by decide +kernel
theorem dX2_areSoAt_30 : decode cX2_areSoAt 30 = .ok (.iaload, 1) := by decide +kernel
theorem dX2_areSoAt_31 : decode cX2_areSoAt 31 = .ok (.aload_n 0, 1) := by decide +kernel
theorem dX2_areSoAt_32 : decode cX2_areSoAt 32 = .ok (.getfield 18, 3) := by decide +kernel
theorem dX2_areSoAt_35 : decode cX2_areSoAt 35 = .ok (.iload_n 3, 1) := by decide +kernel
theorem dX2_areSoAt_36 : decode cX2_areSoAt 36 = .ok (.iaload, 1) := by decide +kernel
theorem dX2_areSoAt_37 : decode cX2_areSoAt 37 = .ok (.if_icmp .eq 5, 3) := by decide +kernel
theorem dX2_areSoAt_40 : decode cX2_areSoAt 40 = .ok (.iconst 0, 1) := by decide +kernel
theorem dX2_areSoAt_41 : decode cX2_areSoAt 41 = .ok (.ireturn, 1) := by decide +kernel
theorem dX2_areSoAt_42 : decode cX2_areSoAt 42 = .ok (.iinc 3 1, 3) := by decide +kernel
theorem dX2_areSoAt_45 : decode cX2_areSoAt 45 = .ok (.goto (-43), 3) := by decide +kernel
theorem dX2_areSoAt_48 : decode cX2_areSoAt 48 = .ok (.iconst 1, 1) := by decide +kernel
theorem dX2_areSoAt_49 : decode cX2_areSoAt 49 = .ok (.ireturn, 1) := by decide +kernel
theorem dX3_init_0 : decode cX3_init 0 = .ok (.aload_n 0, 1) := by decide +kernel
theorem dX3_init_1 : decode cX3_init 1 = .ok (.invokespecial 3, 3) := by decide +kernel
theorem dX3_init_4 : decode cX3_init 4 = .ok (.aload_n 0, 1) := by decide +kernel
theorem dX3_init_5 : decode cX3_init 5 = .ok (.iconst 0, 1) := by decide +kernel
theorem dX3_init_6 : decode cX3_init 6 = .ok (.putfield 9, 3) := by decide +kernel
theorem dX3_init_9 : decode cX3_init 9 = .ok (.aload_n 0, 1) := by decide +kernel
theorem dX3_init_10 : decode cX3_init 10 = .ok (.iconst 0, 1) := by decide +kernel
theorem dX3_init_11 : decode cX3_init 11 = .ok (.putfield 15, 3) := by decide +kernel
theorem dX3_init_14 : decode cX3_init 14 = .ok (.aload_n 0, 1) := by decide +kernel
theorem dX3_init_15 : decode cX3_init 15 = .ok (.iconst 5, 1) := by decide +kernel
theorem dX3_init_16 : decode cX3_init 16 = .ok (.newarray .int, 2) := by decide +kernel
theorem dX3_init_18 : decode cX3_init 18 = .ok (.putfield 18, 3) := by decide +kernel
theorem dX3_init_21 : decode cX3_init 21 = .ok (.aload_n 0, 1) := by decide +kernel
theorem dX3_init_22 : decode cX3_init 22 = .ok (.iconst 5, 1) := by decide +kernel
theorem dX3_init_23 : decode cX3_init 23 = .ok (.newarray .int, 2) := by decide +kernel
theorem dX3_init_25 : decode cX3_init 25 = .ok (.putfield 22, 3) := by decide +kernel
theorem dX3_init_28 : decode cX3_init 28 = .ok (.aload_n 0, 1) := by decide +kernel
theorem dX3_init_29 : decode cX3_init 29 = .ok (.iconst 5, 1) := by decide +kernel
theorem dX3_init_30 : decode cX3_init 30 = .ok (.newarray .int, 2) := by decide +kernel
theorem dX3_init_32 : decode cX3_init 32 = .ok (.putfield 25, 3) := by decide +kernel
theorem dX3_init_35 : decode cX3_init 35 = .ok (.return_, 1) := by decide +kernel
theorem dX3_isNone_0 : decode cX3_isNone 0 = .ok (.aload_n 0, 1) := by decide +kernel
theorem dX3_isNone_1 : decode cX3_isNone 1 = .ok (.getfield 15, 3) := by decide +kernel
theorem dX3_isNone_4 : decode cX3_isNone 4 = .ok (.ifCond .ne 7, 3) := by decide +kernel
theorem dX3_isNone_7 : decode cX3_isNone 7 = .ok (.iconst 1, 1) := by decide +kernel
theorem dX3_isNone_8 : decode cX3_isNone 8 = .ok (.goto 4, 3) := by decide +kernel
theorem dX3_isNone_11 : decode cX3_isNone 11 = .ok (.iconst 0, 1) := by decide +kernel
theorem dX3_isNone_12 : decode cX3_isNone 12 = .ok (.ireturn, 1) := by decide +kernel
theorem dX3_has_0 : decode cX3_has 0 = .ok (.iload_n 1, 1) := by decide +kernel
theorem dX3_has_1 : decode cX3_has 1 = .ok (.ifCond .lt 15, 3) := by decide +kernel
theorem dX3_has_4 : decode cX3_has 4 = .ok (.iload_n 1, 1) := by decide +kernel
theorem dX3_has_5 : decode cX3_has 5 = .ok (.aload_n 0, 1) := by decide +kernel
theorem dX3_has_6 : decode cX3_has 6 = .ok (.getfield 15, 3) := by decide +kernel
theorem dX3_has_9 : decode cX3_has 9 = .ok (.if_icmp .ge 7, 3) := by decide +kernel
theorem dX3_has_12 : decode cX3_has 12 = .ok (.iconst 1, 1) := by decide +kernel
theorem dX3_has_13 : decode cX3_has 13 = .ok (.goto 4, 3) := by decide +kernel
theorem dX3_has_16 : decode cX3_has 16 = .ok (.iconst 0, 1) := by decide +kernel
theorem dX3_has_17 : decode cX3_has 17 = .ok (.ireturn, 1) := by decide +kernel
theorem dX3_isNumber_0 : decode cX3_isNumber 0 = .ok (.iload_n 1, 1) := by decide +kernel
theorem dX3_isNumber_1 : decode cX3_isNumber 1 = .ok (.ifCond .lt 15, 3) := by decide +kernel
theorem dX3_isNumber_4 : decode cX3_isNumber 4 = .ok (.iload_n 1, 1) := by decide +kernel
theorem dX3_isNumber_5 : decode cX3_isNumber 5 = .ok (.aload_n 0, 1) := by decide +kernel
theorem dX3_isNumber_6 : decode cX3_isNumber 6 = .ok (.getfield 9, 3) := by decide +kernel
theorem dX3_isNumber_9 : decode cX3_isNumber 9 = .ok (.if_icmp .ge 7, 3) := by decide +kernel
theorem dX3_isNumber_12 : decode cX3_isNumber 12 = .ok (.iconst 1, 1) := by decide +kernel
theorem dX3_isNumber_13 : decode cX3_isNumber 13 = .ok (.goto 4, 3) := by decide +kernel
theorem dX3_isNumber_16 : decode cX3_isNumber 16 = .ok (.iconst 0, 1) := by decide +kernel
theorem dX3_isNumber_17 : decode cX3_isNumber 17 = .ok (.ireturn, 1) := by decide +kernel
theorem dX3_takeAll_0 : decode cX3_takeAll 0 = .ok (.aload_n 0, 1) := by decide +kernel
theorem dX3_takeAll_1 : decode cX3_takeAll 1 = .ok (.aload_n 1, 1) := by decide +kernel
theorem dX3_takeAll_2 : decode cX3_takeAll 2 = .ok (.invokevirtual 28, 3) := by decide +kernel
theorem dX3_takeAll_5 : decode cX3_takeAll 5 = .ok (.aload_n 1, 1) := by decide +kernel
theorem dX3_takeAll_6 : decode cX3_takeAll 6 = .ok (.getfield 22, 3) := by decide +kernel
theorem dX3_takeAll_9 : decode cX3_takeAll 9 = .ok (.iconst 0, 1) := by decide +kernel
theorem dX3_takeAll_10 : decode cX3_takeAll 10 = .ok (.aload_n 0, 1) := by decide +kernel
theorem dX3_takeAll_11 : decode cX3_takeAll 11 = .ok (.getfield 22, 3) := by decide +kernel
theorem dX3_takeAll_14 : decode cX3_takeAll 14 = .ok (.iconst 0, 1) := by decide +kernel
theorem dX3_takeAll_15 : decode cX3_takeAll 15 = .ok (.iconst 5, 1) := by decide +kernel
theorem dX3_takeAll_16 : decode cX3_takeAll 16 = .ok (.invokestatic 32, 3) := by decide +kernel
theorem dX3_takeAll_19 : decode cX3_takeAll 19 = .ok (.return_, 1) := by decide +kernel
theorem dX3_takeKinds_0 : decode cX3_takeKinds 0 = .ok (.aload_n 0, 1) := by decide +kernel
theorem dX3_takeKinds_1 : decode cX3_takeKinds 1 = .ok (.aload_n 1, 1) := by decide +kernel
theorem dX3_takeKinds_2 : decode cX3_takeKinds 2 = .ok (.getfield 9, 3) := by decide +kernel
theorem dX3_takeKinds_5 : decode cX3_takeKinds 5 = .ok (.putfield 9, 3) := by decide +kernel
theorem dX3_takeKinds_8 : decode cX3_takeKinds 8 = .ok (.aload_n 0, 1) := by decide +kernel
theorem dX3_takeKinds_9 : decode cX3_takeKinds 9 = .ok (.aload_n 1, 1) := by decide +kernel
theorem dX3_takeKinds_10 : decode cX3_takeKinds 10 = .ok (.getfield 15, 3) := by decide +kernel
theorem dX3_takeKinds_13 : decode cX3_takeKinds 13 = .ok (.putfield 15, 3) := by decide +kernel
theorem dX3_takeKinds_16 : decode cX3_takeKinds 16 = .ok (.aload_n 1, 1) := by decide +kernel
theorem dX3_takeKinds_17 : decode cX3_takeKinds 17 = .ok (.getfield 18, 3) := by decide +kernel
theorem dX3_takeKinds_20 : decode cX3_takeKinds 20 = .ok (.iconst 0, 1) := by decide +kernel
theorem dX3_takeKinds_21 : decode cX3_takeKinds 21 = .ok (.aload_n 0, 1) := by decide +kernel
theorem dX3_takeKinds_22 : decode cX3_takeKinds 22 = .ok (.getfield 18, 3) := by decide +kernel
theorem dX3_takeKinds_25 : decode cX3_takeKinds 25 = .ok (.iconst 0, 1) := by decide +kernel
theorem dX3_takeKinds_26 : decode cX3_takeKinds 26 = .ok (.iconst 5, 1) := by decide +kernel
theorem dX3_takeKinds_27 : decode cX3_takeKinds 27 = .ok (.invokestatic 32, 3) := by decide +kernel
theorem dX3_takeKinds_30 : decode cX3_takeKinds 30 = .ok (.return_, 1) := by decide +kernel
theorem dX3_takeRow_0 : decode cX3_takeRow 0 = .ok (.iconst 0, 1) := by decide +kernel
theorem dX3_takeRow_1 : decode cX3_takeRow 1 = .ok (.istore_n 3, 1) := by decide +kernel
theorem dX3_takeRow_2 : decode cX3_takeRow 2 = .ok (.iload_n 3, 1) := by decide +kernel
theorem dX3_takeRow_3 : decode cX3_takeRow 3 = .ok (.aload_n 0, 1) := by decide +kernel
theorem dX3_takeRow_4 : decode cX3_takeRow 4 = .ok (.getfield 15, 3) := by decide +kernel
theorem dX3_takeRow_7 : decode cX3_takeRow 7 = .ok (.if_icmp .ge 37, 3) := by decide +kernel
theorem dX3_takeRow_10 : decode cX3_takeRow 10 = .ok (.aload_n 1, 1) := by decide +kernel
theorem dX3_takeRow_11 : decode cX3_takeRow 11 = .ok (.iload_n 2, 1) := by decide +kernel
theorem dX3_takeRow_12 : decode cX3_takeRow 12 = .ok (.iload_n 3, 1) := by decide +kernel
theorem dX3_takeRow_13 : decode cX3_takeRow 13 = .ok (.iadd, 1) := by decide +kernel
theorem dX3_takeRow_14 : decode cX3_takeRow 14 = .ok (.invokevirtual 38, 3) := by decide +kernel
theorem dX3_takeRow_17 : decode cX3_takeRow 17 = .ok (.istore 4, 2) := by decide +kernel
theorem dX3_takeRow_19 : decode cX3_takeRow 19 = .ok (.aload_n 0, 1) := by decide +kernel
theorem dX3_takeRow_20 : decode cX3_takeRow 20 = .ok (.iload 4, 2) := by decide +kernel
theorem dX3_takeRow_22 : decode cX3_takeRow 22 = .ok (.invokevirtual 44, 3) := by decide +kernel
theorem dX3_takeRow_25 : decode cX3_takeRow 25 = .ok (.ifCond .ne 5, 3) := by decide +kernel
theorem dX3_takeRow_28 : decode cX3_takeRow 28 = .ok (.iconst 0, 1) := by decide +kernel
theorem dX3_takeRow_29 : decode cX3_takeRow 29 = .ok (.ireturn, 1) := by decide +kernel
theorem dX3_takeRow_30 : decode cX3_takeRow 30 = .ok (.aload_n 0, 1) := by decide +kernel
theorem dX3_takeRow_31 : decode cX3_takeRow 31 = .ok (.getfield 22, 3) := by decide +kernel
theorem dX3_takeRow_34 : decode cX3_takeRow 34 = .ok (.iload_n 3, 1) := by decide +kernel
theorem dX3_takeRow_35 : decode cX3_takeRow 35 = .ok (.iload 4, 2) := by decide +kernel
theorem dX3_takeRow_37 : decode cX3_takeRow 37 = .ok (.iastore, 1) := by decide +kernel
theorem dX3_takeRow_38 : decode cX3_takeRow 38 = .ok (.iinc 3 1, 3) := by decide +kernel
theorem dX3_takeRow_41 : decode cX3_takeRow 41 = .ok (.goto (-39), 3) := by decide +kernel
theorem dX3_takeRow_44 : decode cX3_takeRow 44 = .ok (.iconst 1, 1) := by decide +kernel
theorem dX3_takeRow_45 : decode cX3_takeRow 45 = .ok (.ireturn, 1) := by decide +kernel
theorem dX3_takeFirstRow_0 : decode cX3_takeFirstRow 0 = .ok (.aload_n 0, 1) := by decide +kernel
theorem dX3_takeFirstRow_1 : decode cX3_takeFirstRow 1 = .ok (.getfield 22, 3) := by decide +kernel
theorem dX3_takeFirstRow_4 : decode cX3_takeFirstRow 4 = .ok (.iconst 0, 1) := by decide +kernel
theorem dX3_takeFirstRow_5 : decode cX3_takeFirstRow 5 = .ok (.invokestatic 48, 3) := by decide +kernel
theorem dX3_takeFirstRow_8 : decode cX3_takeFirstRow 8 = .ok (.return_, 1) := by decide +kernel
theorem dX3_takeNextRow_0 : decode cX3_takeNextRow 0 = .ok (.aload_n 0, 1) := by decide +kernel
theorem dX3_takeNextRow_1 : decode cX3_takeNextRow 1 = .ok (.getfield 15, 3) := by decide +kernel
theorem dX3_takeNextRow_4 : decode cX3_takeNextRow 4 = .ok (.iconst 1, 1) := by decide +kernel
theorem dX3_takeNextRow_5 : decode cX3_takeNextRow 5 = .ok (.isub, 1) := by decide +kernel
theorem dX3_takeNextRow_6 : decode cX3_takeNextRow 6 = .ok (.istore_n 1, 1) := by decide +kernel
theorem dX3_takeNextRow_7 : decode cX3_takeNextRow 7 = .ok (.iload_n 1, 1) := by decide +kernel
theorem dX3_takeNextRow_8 : decode cX3_takeNextRow 8 = .ok (.ifCond .lt 42, 3) := by decide +kernel
theorem dX3_takeNextRow_11 : decode cX3_takeNextRow 11 = .ok (.aload_n 0, 1) := by decide +kernel
theorem dX3_takeNextRow_12 : decode cX3_takeNextRow 12 = .ok (.getfield 22, 3) := by decide +kernel
theorem dX3_takeNextRow_15 : decode cX3_takeNextRow 15 = .ok (.iload_n 1, 1) := by decide +kernel
theorem dX3_takeNextRow_16 : decode cX3_takeNextRow 16 = .ok (.iaload, 1) := by decide +kernel
theorem dX3_takeNextRow_17 : decode cX3_takeNextRow 17 = .ok (.aload_n 0, 1) := by decide +kernel
theorem dX3_takeNextRow_18 : decode cX3_takeNextRow 18 = .ok (.getfield 9, 3) := by decide +kernel
theorem dX3_takeNextRow_21 : decode cX3_takeNextRow 21 = .ok (.iconst 1, 1) := by decide +kernel
theorem dX3_takeNextRow_22 : decode cX3_takeNextRow 22 = .ok (.isub, 1) := by decide +kernel
theorem dX3_takeNextRow_23 : decode cX3_takeNextRow 23 = .ok (.if_icmp .ge 14, 3) := by decide +kernel
theorem dX3_takeNextRow_26 : decode cX3_takeNextRow 26 = .ok (.aload_n 0, 1) := by decide +kernel
theorem dX3_takeNextRow_27 : decode cX3_takeNextRow 27 = .ok (.getfield 22, 3) := by decide +kernel
theorem dX3_takeNextRow_30 : decode cX3_takeNextRow 30 = .ok (.iload_n 1, 1) := by decide +kernel
theorem dX3_takeNextRow_31 : decode cX3_takeNextRow 31 = .ok (.dup2, 1) := by decide +kernel
theorem dX3_takeNextRow_32 : decode cX3_takeNextRow 32 = .ok (.iaload, 1) := by decide +kernel
theorem dX3_takeNextRow_33 : decode cX3_takeNextRow 33 = .ok (.iconst 1, 1) := by decide +kernel
theorem dX3_takeNextRow_34 : decode cX3_takeNextRow 34 = .ok (.iadd, 1) := by decide +kernel
theorem dX3_takeNextRow_35 : decode cX3_takeNextRow 35 = .ok (.iastore, 1) := by decide +kernel
theorem dX3_takeNextRow_36 : decode cX3_takeNextRow 36 = .ok (.return_, 1) := by decide +kernel
theorem dX3_takeNextRow_37 : decode cX3_takeNextRow 37 = .ok (.aload_n 0, 1) := by decide +kernel
theorem dX3_takeNextRow_38 : decode cX3_takeNextRow 38 = .ok (.getfield 22, 3) := by decide +kernel
theorem dX3_takeNextRow_41 : decode cX3_takeNextRow 41 = .ok (.iload_n 1, 1) := by decide +kernel
theorem dX3_takeNextRow_42 : decode cX3_takeNextRow 42 = .ok (.iconst 0, 1) := by decide +kernel
theorem dX3_takeNextRow_43 : decode cX3_takeNextRow 43 = .ok (.iastore, 1) := by decide +kernel
theorem dX3_takeNextRow_44 : decode cX3_takeNextRow 44 = .ok (.iinc 1 (-1), 3) := by decide +kernel
theorem dX3_takeNextRow_47 : decode cX3_takeNextRow 47 = .ok (.goto (-40), 3) := by decide +kernel
theorem dX3_takeNextRow_50 : decode cX3_takeNextRow 50 = .ok (.return_, 1) := by decide +kernel
theorem dX3_stepped_0 : decode cX3_stepped 0 = .ok (.aload_n 0, 1) := by decide +kernel
theorem dX3_stepped_1 : decode cX3_stepped 1 = .ok (.iload_n 1, 1) := by decide +kernel
theorem dX3_stepped_2 : decode cX3_stepped 2 = .ok (.iconst 1, 1) := by decide +kernel
theorem dX3_stepped_3 : decode cX3_stepped 3 = .ok (.invokevirtual 54, 3) := by decide +kernel
theorem dX3_stepped_6 : decode cX3_stepped 6 = .ok (.istore_n 2, 1) := by decide +kernel
theorem dX3_stepped_7 : decode cX3_stepped 7 = .ok (.aload_n 0, 1) := by decide +kernel
theorem dX3_stepped_8 : decode cX3_stepped 8 = .ok (.iload_n 1, 1) := by decide +kernel
theorem dX3_stepped_9 : decode cX3_stepped 9 = .ok (.iconst 2, 1) := by decide +kernel
theorem dX3_stepped_10 : decode cX3_stepped 10 = .ok (.invokevirtual 54, 3) := by decide +kernel
theorem dX3_stepped_13 : decode cX3_stepped 13 = .ok (.istore_n 3, 1) := by decide +kernel
theorem dX3_stepped_14 : decode cX3_stepped 14 = .ok (.aload_n 0, 1) := by decide +kernel
theorem dX3_stepped_15 : decode cX3_stepped 15 = .ok (.getfield 18, 3) := by decide +kernel
theorem dX3_stepped_18 : decode cX3_stepped 18 = .ok (.iload_n 1, 1) := by decide +kernel
theorem dX3_stepped_19 : decode cX3_stepped 19 = .ok (.iaload, 1) := by decide +kernel
theorem dX3_stepped_20 : decode cX3_stepped 20 = .ok (.lookupswitch 32 #[(0, 28), (1, 30)], 28) := by decide +kernel
theorem dX3_stepped_48 : decode cX3_stepped 48 = .ok (.iload_n 2, 1) := by decide +kernel
theorem dX3_stepped_49 : decode cX3_stepped 49 = .ok (.ireturn, 1) := by decide +kernel
theorem dX3_stepped_50 : decode cX3_stepped 50 = .ok (.iload_n 3, 1) := by decide +kernel
theorem dX3_stepped_51 : decode cX3_stepped 51 = .ok (.ireturn, 1) := by decide +kernel
theorem dX3_stepped_52 : decode cX3_stepped 52 = .ok (.iload_n 2, 1) := by decide +kernel
theorem dX3_stepped_53 : decode cX3_stepped 53 = .ok (.iload_n 3, 1) := by decide +kernel
theorem dX3_stepped_54 : decode cX3_stepped 54 = .ok (.iadd, 1) := by decide +kernel
theorem dX3_stepped_55 : decode cX3_stepped 55 = .ok (.aload_n 0, 1) := by decide +kernel
theorem dX3_stepped_56 : decode cX3_stepped 56 = .ok (.getfield 9, 3) := by decide +kernel
theorem dX3_stepped_59 : decode cX3_stepped 59 = .ok (.if_icmp .ge 9, 3) := by decide +kernel
theorem dX3_stepped_62 : decode cX3_stepped 62 = .ok (.iload_n 2, 1) := by decide +kernel
theorem dX3_stepped_63 : decode cX3_stepped 63 = .ok (.iload_n 3, 1) := by decide +kernel
theorem dX3_stepped_64 : decode cX3_stepped 64 = .ok (.iadd, 1) := by decide +kernel
theorem dX3_stepped_65 : decode cX3_stepped 65 = .ok (.goto 11, 3) := by decide +kernel
theorem dX3_stepped_68 : decode cX3_stepped 68 = .ok (.iload_n 2, 1) := by decide +kernel
theorem dX3_stepped_69 : decode cX3_stepped 69 = .ok (.iload_n 3, 1) := by decide +kernel
theorem dX3_stepped_70 : decode cX3_stepped 70 = .ok (.iadd, 1) := by decide +kernel
theorem dX3_stepped_71 : decode cX3_stepped 71 = .ok (.aload_n 0, 1) := by decide +kernel
theorem dX3_stepped_72 : decode cX3_stepped 72 = .ok (.getfield 9, 3) := by decide +kernel
theorem dX3_stepped_75 : decode cX3_stepped 75 = .ok (.isub, 1) := by decide +kernel
theorem dX3_stepped_76 : decode cX3_stepped 76 = .ok (.ireturn, 1) := by decide +kernel
theorem dX3_howFar_0 : decode cX3_howFar 0 = .ok (.iload_n 1, 1) := by decide +kernel
theorem dX3_howFar_1 : decode cX3_howFar 1 = .ok (.iload_n 2, 1) := by decide +kernel
theorem dX3_howFar_2 : decode cX3_howFar 2 = .ok (.iadd, 1) := by decide +kernel
theorem dX3_howFar_3 : decode cX3_howFar 3 = .ok (.aload_n 0, 1) := by decide +kernel
theorem dX3_howFar_4 : decode cX3_howFar 4 = .ok (.getfield 15, 3) := by decide +kernel
theorem dX3_howFar_7 : decode cX3_howFar 7 = .ok (.if_icmp .ge 9, 3) := by decide +kernel
theorem dX3_howFar_10 : decode cX3_howFar 10 = .ok (.iload_n 1, 1) := by decide +kernel
theorem dX3_howFar_11 : decode cX3_howFar 11 = .ok (.iload_n 2, 1) := by decide +kernel
theorem dX3_howFar_12 : decode cX3_howFar 12 = .ok (.iadd, 1) := by decide +kernel
theorem dX3_howFar_13 : decode cX3_howFar 13 = .ok (.goto 11, 3) := by decide +kernel
theorem dX3_howFar_16 : decode cX3_howFar 16 = .ok (.iload_n 1, 1) := by decide +kernel
theorem dX3_howFar_17 : decode cX3_howFar 17 = .ok (.iload_n 2, 1) := by decide +kernel
theorem dX3_howFar_18 : decode cX3_howFar 18 = .ok (.iadd, 1) := by decide +kernel
theorem dX3_howFar_19 : decode cX3_howFar 19 = .ok (.aload_n 0, 1) := by decide +kernel
theorem dX3_howFar_20 : decode cX3_howFar 20 = .ok (.getfield 15, 3) := by decide +kernel
theorem dX3_howFar_23 : decode cX3_howFar 23 = .ok (.isub, 1) := by decide +kernel
theorem dX3_howFar_24 : decode cX3_howFar 24 = .ok (.istore_n 3, 1) := by decide +kernel
theorem dX3_howFar_25 : decode cX3_howFar 25 = .ok (.aload_n 0, 1) := by decide +kernel
theorem dX3_howFar_26 : decode cX3_howFar 26 = .ok (.getfield 22, 3) := by decide +kernel
theorem dX3_howFar_29 : decode cX3_howFar 29 = .ok (.iload_n 1, 1) := by decide +kernel
theorem dX3_howFar_30 : decode cX3_howFar 30 = .ok (.iaload, 1) := by decide +kernel
theorem dX3_howFar_31 : decode cX3_howFar 31 = .ok (.aload_n 0, 1) := by decide +kernel
theorem dX3_howFar_32 : decode cX3_howFar 32 = .ok (.getfield 22, 3) := by decide +kernel
theorem dX3_howFar_35 : decode cX3_howFar 35 = .ok (.iload_n 3, 1) := by decide +kernel
theorem dX3_howFar_36 : decode cX3_howFar 36 = .ok (.iaload, 1) := by decide +kernel
theorem dX3_howFar_37 : decode cX3_howFar 37 = .ok (.isub, 1) := by decide +kernel
theorem dX3_howFar_38 : decode cX3_howFar 38 = .ok (.invokestatic 58, 3) := by decide +kernel
theorem dX3_howFar_41 : decode cX3_howFar 41 = .ok (.ireturn, 1) := by decide +kernel
theorem dX3_go_0 : decode cX3_go 0 = .ok (.iconst 0, 1) := by decide +kernel
theorem dX3_go_1 : decode cX3_go 1 = .ok (.istore_n 2, 1) := by decide +kernel
theorem dX3_go_2 : decode cX3_go 2 = .ok (.iload_n 2, 1) := by decide +kernel
theorem dX3_go_3 : decode cX3_go 3 = .ok (.iload_n 1, 1) := by decide +kernel
theorem dX3_go_4 : decode cX3_go 4 = .ok (.if_icmp .ge 53, 3) := by decide +kernel
theorem dX3_go_7 : decode cX3_go 7 = .ok (.iconst 0, 1) := by decide +kernel
theorem dX3_go_8 : decode cX3_go 8 = .ok (.istore_n 3, 1) := by decide +kernel
theorem dX3_go_9 : decode cX3_go 9 = .ok (.iload_n 3, 1) := by decide +kernel
theorem dX3_go_10 : decode cX3_go 10 = .ok (.aload_n 0, 1) := by decide +kernel
theorem dX3_go_11 : decode cX3_go 11 = .ok (.getfield 15, 3) := by decide +kernel
theorem dX3_go_14 : decode cX3_go 14 = .ok (.if_icmp .ge 20, 3) := by decide +kernel
theorem dX3_go_17 : decode cX3_go 17 = .ok (.aload_n 0, 1) := by decide +kernel
theorem dX3_go_18 : decode cX3_go 18 = .ok (.getfield 25, 3) := by decide +kernel
theorem dX3_go_21 : decode cX3_go 21 = .ok (.iload_n 3, 1) := by decide +kernel
theorem dX3_go_22 : decode cX3_go 22 = .ok (.aload_n 0, 1) := by decide +kernel
theorem dX3_go_23 : decode cX3_go 23 = .ok (.iload_n 3, 1) := by decide +kernel
theorem dX3_go_24 : decode cX3_go 24 = .ok (.invokevirtual 63, 3) := by decide +kernel
theorem dX3_go_27 : decode cX3_go 27 = .ok (.iastore, 1) := by decide +kernel
theorem dX3_go_28 : decode cX3_go 28 = .ok (.iinc 3 1, 3) := by decide +kernel
theorem dX3_go_31 : decode cX3_go 31 = .ok (.goto (-22), 3) := by decide +kernel
theorem dX3_go_34 : decode cX3_go 34 = .ok (.aload_n 0, 1) := by decide +kernel
theorem dX3_go_35 : decode cX3_go 35 = .ok (.getfield 25, 3) := by decide +kernel
theorem dX3_go_38 : decode cX3_go 38 = .ok (.iconst 0, 1) := by decide +kernel
theorem dX3_go_39 : decode cX3_go 39 = .ok (.aload_n 0, 1) := by decide +kernel
theorem dX3_go_40 : decode cX3_go 40 = .ok (.getfield 22, 3) := by decide +kernel
theorem dX3_go_43 : decode cX3_go 43 = .ok (.iconst 0, 1) := by decide +kernel
theorem dX3_go_44 : decode cX3_go 44 = .ok (.aload_n 0, 1) := by decide +kernel
theorem dX3_go_45 : decode cX3_go 45 = .ok (.getfield 15, 3) := by decide +kernel
theorem dX3_go_48 : decode cX3_go 48 = .ok (.invokestatic 32, 3) := by decide +kernel
theorem dX3_go_51 : decode cX3_go 51 = .ok (.iinc 2 1, 3) := by decide +kernel
theorem dX3_go_54 : decode cX3_go 54 = .ok (.goto (-52), 3) := by decide +kernel
theorem dX3_go_57 : decode cX3_go 57 = .ok (.return_, 1) := by decide +kernel
theorem dX3_zeros_0 : decode cX3_zeros 0 = .ok (.iconst 0, 1) := by decide +kernel
theorem dX3_zeros_1 : decode cX3_zeros 1 = .ok (.istore_n 1, 1) := by decide +kernel
theorem dX3_zeros_2 : decode cX3_zeros 2 = .ok (.iconst 0, 1) := by decide +kernel
theorem dX3_zeros_3 : decode cX3_zeros 3 = .ok (.istore_n 2, 1) := by decide +kernel
theorem dX3_zeros_4 : decode cX3_zeros 4 = .ok (.iload_n 2, 1) := by decide +kernel
theorem dX3_zeros_5 : decode cX3_zeros 5 = .ok (.aload_n 0, 1) := by decide +kernel
theorem dX3_zeros_6 : decode cX3_zeros 6 = .ok (.getfield 15, 3) := by decide +kernel
theorem dX3_zeros_9 : decode cX3_zeros 9 = .ok (.if_icmp .ge 21, 3) := by decide +kernel
theorem dX3_zeros_12 : decode cX3_zeros 12 = .ok (.aload_n 0, 1) := by decide +kernel
theorem dX3_zeros_13 : decode cX3_zeros 13 = .ok (.getfield 22, 3) := by decide +kernel
theorem dX3_zeros_16 : decode cX3_zeros 16 = .ok (.iload_n 2, 1) := by decide +kernel
theorem dX3_zeros_17 : decode cX3_zeros 17 = .ok (.iaload, 1) := by decide +kernel
theorem dX3_zeros_18 : decode cX3_zeros 18 = .ok (.ifCond .ne 6, 3) := by decide +kernel
theorem dX3_zeros_21 : decode cX3_zeros 21 = .ok (.iinc 1 1, 3) := by decide +kernel
theorem dX3_zeros_24 : decode cX3_zeros 24 = .ok (.iinc 2 1, 3) := by decide +kernel
theorem dX3_zeros_27 : decode cX3_zeros 27 = .ok (.goto (-23), 3) := by decide +kernel
theorem dX3_zeros_30 : decode cX3_zeros 30 = .ok (.iload_n 1, 1) := by decide +kernel
theorem dX3_zeros_31 : decode cX3_zeros 31 = .ok (.ireturn, 1) := by decide +kernel
theorem dX3_isOut_0 : decode cX3_isOut 0 = .ok (.aload_n 0, 1) := by decide +kernel
theorem dX3_isOut_1 : decode cX3_isOut 1 = .ok (.invokevirtual 66, 3) := by decide +kernel
theorem dX3_isOut_4 : decode cX3_isOut 4 = .ok (.aload_n 0, 1) := by decide +kernel
theorem dX3_isOut_5 : decode cX3_isOut 5 = .ok (.getfield 15, 3) := by decide +kernel
theorem dX3_isOut_8 : decode cX3_isOut 8 = .ok (.if_icmp .ne 7, 3) := by decide +kernel
theorem dX3_isOut_11 : decode cX3_isOut 11 = .ok (.iconst 1, 1) := by decide +kernel
theorem dX3_isOut_12 : decode cX3_isOut 12 = .ok (.goto 4, 3) := by decide +kernel
theorem dX3_isOut_15 : decode cX3_isOut 15 = .ok (.iconst 0, 1) := by decide +kernel
theorem dX3_isOut_16 : decode cX3_isOut 16 = .ok (.ireturn, 1) := by decide +kernel
theorem dX3_total_0 : decode cX3_total 0 = .ok (.iconst 0, 1) := by decide +kernel
theorem dX3_total_1 : decode cX3_total 1 = .ok (.istore_n 1, 1) := by decide +kernel
theorem dX3_total_2 : decode cX3_total 2 = .ok (.iconst 0, 1) := by decide +kernel
theorem dX3_total_3 : decode cX3_total 3 = .ok (.istore_n 2, 1) := by decide +kernel
theorem dX3_total_4 : decode cX3_total 4 = .ok (.iload_n 2, 1) := by decide +kernel
theorem dX3_total_5 : decode cX3_total 5 = .ok (.aload_n 0, 1) := by decide +kernel
theorem dX3_total_6 : decode cX3_total 6 = .ok (.getfield 15, 3) := by decide +kernel
theorem dX3_total_9 : decode cX3_total 9 = .ok (.if_icmp .ge 18, 3) := by decide +kernel
theorem dX3_total_12 : decode cX3_total 12 = .ok (.iload_n 1, 1) := by decide +kernel
theorem dX3_total_13 : decode cX3_total 13 = .ok (.aload_n 0, 1) := by decide +kernel
theorem dX3_total_14 : decode cX3_total 14 = .ok (.getfield 22, 3) := by decide +kernel
theorem dX3_total_17 : decode cX3_total 17 = .ok (.iload_n 2, 1) := by decide +kernel
theorem dX3_total_18 : decode cX3_total 18 = .ok (.iaload, 1) := by decide +kernel
theorem dX3_total_19 : decode cX3_total 19 = .ok (.iadd, 1) := by decide +kernel
theorem dX3_total_20 : decode cX3_total 20 = .ok (.istore_n 1, 1) := by decide +kernel
theorem dX3_total_21 : decode cX3_total 21 = .ok (.iinc 2 1, 3) := by decide +kernel
theorem dX3_total_24 : decode cX3_total 24 = .ok (.goto (-20), 3) := by decide +kernel
theorem dX3_total_27 : decode cX3_total 27 = .ok (.iload_n 1, 1) := by decide +kernel
theorem dX3_total_28 : decode cX3_total 28 = .ok (.ireturn, 1) := by decide +kernel
theorem dX3_code_0 : decode cX3_code 0 = .ok (.iconst 0, 1) := by decide +kernel
theorem dX3_code_1 : decode cX3_code 1 = .ok (.istore_n 1, 1) := by decide +kernel
theorem dX3_code_2 : decode cX3_code 2 = .ok (.iconst 0, 1) := by decide +kernel
theorem dX3_code_3 : decode cX3_code 3 = .ok (.istore_n 2, 1) := by decide +kernel
theorem dX3_code_4 : decode cX3_code 4 = .ok (.iload_n 2, 1) := by decide +kernel
theorem dX3_code_5 : decode cX3_code 5 = .ok (.aload_n 0, 1) := by decide +kernel
theorem dX3_code_6 : decode cX3_code 6 = .ok (.getfield 15, 3) := by decide +kernel
theorem dX3_code_9 : decode cX3_code 9 = .ok (.if_icmp .ge 23, 3) := by decide +kernel
theorem dX3_code_12 : decode cX3_code 12 = .ok (.iload_n 1, 1) := by decide +kernel
theorem dX3_code_13 : decode cX3_code 13 = .ok (.aload_n 0, 1) := by decide +kernel
theorem dX3_code_14 : decode cX3_code 14 = .ok (.getfield 9, 3) := by decide +kernel
theorem dX3_code_17 : decode cX3_code 17 = .ok (.imul, 1) := by decide +kernel
theorem dX3_code_18 : decode cX3_code 18 = .ok (.aload_n 0, 1) := by decide +kernel
theorem dX3_code_19 : decode cX3_code 19 = .ok (.getfield 22, 3) := by decide +kernel
theorem dX3_code_22 : decode cX3_code 22 = .ok (.iload_n 2, 1) := by decide +kernel
theorem dX3_code_23 : decode cX3_code 23 = .ok (.iaload, 1) := by decide +kernel
theorem dX3_code_24 : decode cX3_code 24 = .ok (.iadd, 1) := by decide +kernel
theorem dX3_code_25 : decode cX3_code 25 = .ok (.istore_n 1, 1) := by decide +kernel
theorem dX3_code_26 : decode cX3_code 26 = .ok (.iinc 2 1, 3) := by decide +kernel
theorem dX3_code_29 : decode cX3_code 29 = .ok (.goto (-25), 3) := by decide +kernel
theorem dX3_code_32 : decode cX3_code 32 = .ok (.iload_n 1, 1) := by decide +kernel
theorem dX3_code_33 : decode cX3_code 33 = .ok (.ireturn, 1) := by decide +kernel
theorem dX3_steppedCode_0 : decode cX3_steppedCode 0 = .ok (.iconst 0, 1) := by decide +kernel
theorem dX3_steppedCode_1 : decode cX3_steppedCode 1 = .ok (.istore_n 1, 1) := by decide +kernel
theorem dX3_steppedCode_2 : decode cX3_steppedCode 2 = .ok (.iconst 0, 1) := by decide +kernel
theorem dX3_steppedCode_3 : decode cX3_steppedCode 3 = .ok (.istore_n 2, 1) := by decide +kernel
theorem dX3_steppedCode_4 : decode cX3_steppedCode 4 = .ok (.iload_n 2, 1) := by decide +kernel
theorem dX3_steppedCode_5 : decode cX3_steppedCode 5 = .ok (.aload_n 0, 1) := by decide +kernel
theorem dX3_steppedCode_6 : decode cX3_steppedCode 6 = .ok (.getfield 15, 3) := by decide +kernel
theorem dX3_steppedCode_9 : decode cX3_steppedCode 9 = .ok (.if_icmp .ge 22, 3) := by decide +kernel
theorem dX3_steppedCode_12 : decode cX3_steppedCode 12 = .ok (.iload_n 1, 1) := by decide +kernel
theorem dX3_steppedCode_13 : decode cX3_steppedCode 13 = .ok (.aload_n 0, 1) := by decide +kernel
theorem dX3_steppedCode_14 : decode cX3_steppedCode 14 = .ok (.getfield 9, 3) := by decide +kernel
theorem dX3_steppedCode_17 : decode cX3_steppedCode 17 = .ok (.imul, 1) := by decide +kernel
theorem dX3_steppedCode_18 : decode cX3_steppedCode 18 = .ok (.aload_n 0, 1) := by decide +kernel
theorem dX3_steppedCode_19 : decode cX3_steppedCode 19 = .ok (.iload_n 2, 1) := by decide +kernel
theorem dX3_steppedCode_20 : decode cX3_steppedCode 20 = .ok (.invokevirtual 63, 3) := by decide +kernel
theorem dX3_steppedCode_23 : decode cX3_steppedCode 23 = .ok (.iadd, 1) := by decide +kernel
theorem dX3_steppedCode_24 : decode cX3_steppedCode 24 = .ok (.istore_n 1, 1) := by decide +kernel
theorem dX3_steppedCode_25 : decode cX3_steppedCode 25 = .ok (.iinc 2 1, 3) := by decide +kernel
theorem dX3_steppedCode_28 : decode cX3_steppedCode 28 = .ok (.goto (-24), 3) := by decide +kernel
theorem dX3_steppedCode_31 : decode cX3_steppedCode 31 = .ok (.iload_n 1, 1) := by decide +kernel
theorem dX3_steppedCode_32 : decode cX3_steppedCode 32 = .ok (.ireturn, 1) := by decide +kernel
theorem dX4_init_0 : decode cX4_init 0 = .ok (.aload_n 0, 1) := by decide +kernel
theorem dX4_init_1 : decode cX4_init 1 = .ok (.invokespecial 3, 3) := by decide +kernel
theorem dX4_init_4 : decode cX4_init 4 = .ok (.aload_n 0, 1) := by decide +kernel
theorem dX4_init_5 : decode cX4_init 5 = .ok (.iconst (-1), 1) := by decide +kernel
theorem dX4_init_6 : decode cX4_init 6 = .ok (.putfield 11, 3) := by decide +kernel
theorem dX4_init_9 : decode cX4_init 9 = .ok (.aload_n 0, 1) := by decide +kernel
theorem dX4_init_10 : decode cX4_init 10 = .ok (.iconst 0, 1) := by decide +kernel
theorem dX4_init_11 : decode cX4_init 11 = .ok (.putfield 15, 3) := by decide +kernel
theorem dX4_init_14 : decode cX4_init 14 = .ok (.aload_n 0, 1) := by decide +kernel
theorem dX4_init_15 : decode cX4_init 15 = .ok (.bipush 60, 2) := by decide +kernel
theorem dX4_init_17 : decode cX4_init 17 = .ok (.newarray .int, 2) := by decide +kernel
theorem dX4_init_19 : decode cX4_init 19 = .ok (.putfield 18, 3) := by decide +kernel
theorem dX4_init_22 : decode cX4_init 22 = .ok (.return_, 1) := by decide +kernel
theorem dX4_hasNothing_0 : decode cX4_hasNothing 0 = .ok (.aload_n 0, 1) := by decide +kernel
theorem dX4_hasNothing_1 : decode cX4_hasNothing 1 = .ok (.getfield 11, 3) := by decide +kernel
theorem dX4_hasNothing_4 : decode cX4_hasNothing 4 = .ok (.iconst (-1), 1) := by decide +kernel
theorem dX4_hasNothing_5 : decode cX4_hasNothing 5 = .ok (.if_icmp .ne 7, 3) := by decide +kernel
theorem dX4_hasNothing_8 : decode cX4_hasNothing 8 = .ok (.iconst 1, 1) := by decide +kernel
theorem dX4_hasNothing_9 : decode cX4_hasNothing 9 = .ok (.goto 4, 3) := by decide +kernel
theorem dX4_hasNothing_12 : decode cX4_hasNothing 12 = .ok (.iconst 0, 1) := by decide +kernel
theorem dX4_hasNothing_13 : decode cX4_hasNothing 13 = .ok (.ireturn, 1) := by decide +kernel
theorem dX4_renew_0 : decode cX4_renew 0 = .ok (.aload_n 0, 1) := by decide +kernel
theorem dX4_renew_1 : decode cX4_renew 1 = .ok (.iload_n 1, 1) := by decide +kernel
theorem dX4_renew_2 : decode cX4_renew 2 = .ok (.putfield 11, 3) := by decide +kernel
theorem dX4_renew_5 : decode cX4_renew 5 = .ok (.aload_n 0, 1) := by decide +kernel
theorem dX4_renew_6 : decode cX4_renew 6 = .ok (.iload_n 2, 1) := by decide +kernel
theorem dX4_renew_7 : decode cX4_renew 7 = .ok (.putfield 15, 3) := by decide +kernel
theorem dX4_renew_10 : decode cX4_renew 10 = .ok (.aload_n 0, 1) := by decide +kernel
theorem dX4_renew_11 : decode cX4_renew 11 = .ok (.getfield 18, 3) := by decide +kernel
theorem dX4_renew_14 : decode cX4_renew 14 = .ok (.iconst 0, 1) := by decide +kernel
theorem dX4_renew_15 : decode cX4_renew 15 = .ok (.invokestatic 22, 3) := by decide +kernel
theorem dX4_renew_18 : decode cX4_renew 18 = .ok (.return_, 1) := by decide +kernel
theorem dX4_drop_0 : decode cX4_drop 0 = .ok (.aload_n 0, 1) := by decide +kernel
theorem dX4_drop_1 : decode cX4_drop 1 = .ok (.iconst (-1), 1) := by decide +kernel
theorem dX4_drop_2 : decode cX4_drop 2 = .ok (.putfield 11, 3) := by decide +kernel
theorem dX4_drop_5 : decode cX4_drop 5 = .ok (.aload_n 0, 1) := by decide +kernel
theorem dX4_drop_6 : decode cX4_drop 6 = .ok (.iconst 0, 1) := by decide +kernel
theorem dX4_drop_7 : decode cX4_drop 7 = .ok (.putfield 15, 3) := by decide +kernel
theorem dX4_drop_10 : decode cX4_drop 10 = .ok (.return_, 1) := by decide +kernel
theorem dX4_faultAs_0 : decode cX4_faultAs 0 = .ok (.aload_n 0, 1) := by decide +kernel
theorem dX4_faultAs_1 : decode cX4_faultAs 1 = .ok (.invokevirtual 28, 3) := by decide +kernel
theorem dX4_faultAs_4 : decode cX4_faultAs 4 = .ok (.ifCond .ne 15, 3) := by decide +kernel
theorem dX4_faultAs_7 : decode cX4_faultAs 7 = .ok (.aload_n 0, 1) := by decide +kernel
theorem dX4_faultAs_8 : decode cX4_faultAs 8 = .ok (.getfield 11, 3) := by decide +kernel
theorem dX4_faultAs_11 : decode cX4_faultAs 11 = .ok (.iload_n 1, 1) := by decide +kernel
theorem dX4_faultAs_12 : decode cX4_faultAs 12 = .ok (.if_icmp .eq 7, 3) := by decide +kernel
theorem dX4_faultAs_15 : decode cX4_faultAs 15 = .ok (.iconst 2, 1) := by decide +kernel
theorem dX4_faultAs_16 : decode cX4_faultAs 16 = .ok (.goto 9, 3) := by decide +kernel
theorem dX4_faultAs_19 : decode cX4_faultAs 19 = .ok (.aload_n 0, 1) := by decide +kernel
theorem dX4_faultAs_20 : decode cX4_faultAs 20 = .ok (.iload_n 2, 1) := by decide +kernel
theorem dX4_faultAs_21 : decode cX4_faultAs 21 = .ok (.iload_n 3, 1) := by decide +kernel
theorem dX4_faultAs_22 : decode cX4_faultAs 22 = .ok (.invokevirtual 32, 3) := by decide +kernel
theorem dX4_faultAs_25 : decode cX4_faultAs 25 = .ok (.ireturn, 1) := by decide +kernel
theorem dX4_faultOf_0 : decode cX4_faultOf 0 = .ok (.aload_n 0, 1) := by decide +kernel
theorem dX4_faultOf_1 : decode cX4_faultOf 1 = .ok (.invokevirtual 28, 3) := by decide +kernel
theorem dX4_faultOf_4 : decode cX4_faultOf 4 = .ok (.ifCond .eq 5, 3) := by decide +kernel
theorem dX4_faultOf_7 : decode cX4_faultOf 7 = .ok (.iconst 1, 1) := by decide +kernel
theorem dX4_faultOf_8 : decode cX4_faultOf 8 = .ok (.ireturn, 1) := by decide +kernel
theorem dX4_faultOf_9 : decode cX4_faultOf 9 = .ok (.iload_n 2, 1) := by decide +kernel
theorem dX4_faultOf_10 : decode cX4_faultOf 10 = .ok (.ifCond .ge 5, 3) := by decide +kernel
theorem dX4_faultOf_13 : decode cX4_faultOf 13 = .ok (.iconst 4, 1) := by decide +kernel
theorem dX4_faultOf_14 : decode cX4_faultOf 14 = .ok (.ireturn, 1) := by decide +kernel
theorem dX4_faultOf_15 : decode cX4_faultOf 15 = .ok (.aload_n 0, 1) := by decide +kernel
theorem dX4_faultOf_16 : decode cX4_faultOf 16 = .ok (.iload_n 1, 1) := by decide +kernel
theorem dX4_faultOf_17 : decode cX4_faultOf 17 = .ok (.iload_n 2, 1) := by decide +kernel
theorem dX4_faultOf_18 : decode cX4_faultOf 18 = .ok (.invokevirtual 36, 3) := by decide +kernel
theorem dX4_faultOf_21 : decode cX4_faultOf 21 = .ok (.ifCond .eq 7, 3) := by decide +kernel
theorem dX4_faultOf_24 : decode cX4_faultOf 24 = .ok (.iconst 0, 1) := by decide +kernel
theorem dX4_faultOf_25 : decode cX4_faultOf 25 = .ok (.goto 4, 3) := by decide +kernel
theorem dX4_faultOf_28 : decode cX4_faultOf 28 = .ok (.iconst 3, 1) := by decide +kernel
theorem dX4_faultOf_29 : decode cX4_faultOf 29 = .ok (.ireturn, 1) := by decide +kernel
theorem dX4_faultOfCopy_0 : decode cX4_faultOfCopy 0 = .ok (.aload_n 0, 1) := by decide +kernel
theorem dX4_faultOfCopy_1 : decode cX4_faultOfCopy 1 = .ok (.invokevirtual 28, 3) := by decide +kernel
theorem dX4_faultOfCopy_4 : decode cX4_faultOfCopy 4 = .ok (.ifCond .ne 10, 3) := by decide +kernel
theorem dX4_faultOfCopy_7 : decode cX4_faultOfCopy 7 = .ok (.aload_n 2, 1) := by decide +kernel
theorem dX4_faultOfCopy_8 : decode cX4_faultOfCopy 8 = .ok (.invokevirtual 28, 3) := by decide +kernel
theorem dX4_faultOfCopy_11 : decode cX4_faultOfCopy 11 = .ok (.ifCond .eq 5, 3) := by decide +kernel
theorem dX4_faultOfCopy_14 : decode cX4_faultOfCopy 14 = .ok (.iconst 1, 1) := by decide +kernel
theorem dX4_faultOfCopy_15 : decode cX4_faultOfCopy 15 = .ok (.ireturn, 1) := by decide +kernel
theorem dX4_faultOfCopy_16 : decode cX4_faultOfCopy 16 = .ok (.aload_n 0, 1) := by decide +kernel
theorem dX4_faultOfCopy_17 : decode cX4_faultOfCopy 17 = .ok (.getfield 11, 3) := by decide +kernel
theorem dX4_faultOfCopy_20 : decode cX4_faultOfCopy 20 = .ok (.aload_n 2, 1) := by decide +kernel
theorem dX4_faultOfCopy_21 : decode cX4_faultOfCopy 21 = .ok (.getfield 11, 3) := by decide +kernel
theorem dX4_faultOfCopy_24 : decode cX4_faultOfCopy 24 = .ok (.if_icmp .eq 5, 3) := by decide +kernel
theorem dX4_faultOfCopy_27 : decode cX4_faultOfCopy 27 = .ok (.iconst 2, 1) := by decide +kernel
theorem dX4_faultOfCopy_28 : decode cX4_faultOfCopy 28 = .ok (.ireturn, 1) := by decide +kernel
theorem dX4_faultOfCopy_29 : decode cX4_faultOfCopy 29 = .ok (.aload_n 0, 1) := by decide +kernel
theorem dX4_faultOfCopy_30 : decode cX4_faultOfCopy 30 = .ok (.iload_n 1, 1) := by decide +kernel
theorem dX4_faultOfCopy_31 : decode cX4_faultOfCopy 31 = .ok (.iload 4, 2) := by decide +kernel
theorem dX4_faultOfCopy_33 : decode cX4_faultOfCopy 33 = .ok (.invokevirtual 36, 3) := by decide +kernel
theorem dX4_faultOfCopy_36 : decode cX4_faultOfCopy 36 = .ok (.ifCond .eq 17, 3) := by decide +kernel
theorem dX4_faultOfCopy_39 : decode cX4_faultOfCopy 39 = .ok (.aload_n 2, 1) := by decide +kernel
theorem dX4_faultOfCopy_40 : decode cX4_faultOfCopy 40 = .ok (.iload_n 3, 1) := by decide +kernel
theorem dX4_faultOfCopy_41 : decode cX4_faultOfCopy 41 = .ok (.iload 4, 2) := by decide +kernel
theorem dX4_faultOfCopy_43 : decode cX4_faultOfCopy 43 = .ok (.invokevirtual 36, 3) := by decide +kernel
theorem dX4_faultOfCopy_46 : decode cX4_faultOfCopy 46 = .ok (.ifCond .eq 7, 3) := by decide +kernel
theorem dX4_faultOfCopy_49 : decode cX4_faultOfCopy 49 = .ok (.iconst 0, 1) := by decide +kernel
theorem dX4_faultOfCopy_50 : decode cX4_faultOfCopy 50 = .ok (.goto 4, 3) := by decide +kernel
theorem dX4_faultOfCopy_53 : decode cX4_faultOfCopy 53 = .ok (.iconst 3, 1) := by decide +kernel
theorem dX4_faultOfCopy_54 : decode cX4_faultOfCopy 54 = .ok (.ireturn, 1) := by decide +kernel
theorem dX4_spans_0 : decode cX4_spans 0 = .ok (.iload_n 2, 1) := by decide +kernel
theorem dX4_spans_1 : decode cX4_spans 1 = .ok (.ifCond .lt 29, 3) := by decide +kernel
theorem dX4_spans_4 : decode cX4_spans 4 = .ok (.iload_n 1, 1) := by decide +kernel
theorem dX4_spans_5 : decode cX4_spans 5 = .ok (.ifCond .lt 25, 3) := by decide +kernel
theorem dX4_spans_8 : decode cX4_spans 8 = .ok (.iload_n 1, 1) := by decide +kernel
theorem dX4_spans_9 : decode cX4_spans 9 = .ok (.aload_n 0, 1) := by decide +kernel
theorem dX4_spans_10 : decode cX4_spans 10 = .ok (.getfield 15, 3) := by decide +kernel
theorem dX4_spans_13 : decode cX4_spans 13 = .ok (.if_icmp .gt 17, 3) := by decide +kernel
theorem dX4_spans_16 : decode cX4_spans 16 = .ok (.iload_n 2, 1) := by decide +kernel
theorem dX4_spans_17 : decode cX4_spans 17 = .ok (.aload_n 0, 1) := by decide +kernel
theorem dX4_spans_18 : decode cX4_spans 18 = .ok (.getfield 15, 3) := by decide +kernel
theorem dX4_spans_21 : decode cX4_spans 21 = .ok (.iload_n 1, 1) := by decide +kernel
theorem dX4_spans_22 : decode cX4_spans 22 = .ok (.isub, 1) := by decide +kernel
theorem dX4_spans_23 : decode cX4_spans 23 = .ok (.if_icmp .gt 7, 3) := by decide +kernel
theorem dX4_spans_26 : decode cX4_spans 26 = .ok (.iconst 1, 1) := by decide +kernel
theorem dX4_spans_27 : decode cX4_spans 27 = .ok (.goto 4, 3) := by decide +kernel
theorem dX4_spans_30 : decode cX4_spans 30 = .ok (.iconst 0, 1) := by decide +kernel
theorem dX4_spans_31 : decode cX4_spans 31 = .ok (.ireturn, 1) := by decide +kernel
theorem dX4_at_0 : decode cX4_at 0 = .ok (.iload_n 1, 1) := by decide +kernel
theorem dX4_at_1 : decode cX4_at 1 = .ok (.ifCond .lt 20, 3) := by decide +kernel
theorem dX4_at_4 : decode cX4_at 4 = .ok (.iload_n 1, 1) := by decide +kernel
theorem dX4_at_5 : decode cX4_at 5 = .ok (.aload_n 0, 1) := by decide +kernel
theorem dX4_at_6 : decode cX4_at 6 = .ok (.getfield 15, 3) := by decide +kernel
theorem dX4_at_9 : decode cX4_at 9 = .ok (.if_icmp .ge 12, 3) := by decide +kernel
theorem dX4_at_12 : decode cX4_at 12 = .ok (.aload_n 0, 1) := by decide +kernel
theorem dX4_at_13 : decode cX4_at 13 = .ok (.getfield 18, 3) := by decide +kernel
theorem dX4_at_16 : decode cX4_at 16 = .ok (.iload_n 1, 1) := by decide +kernel
theorem dX4_at_17 : decode cX4_at 17 = .ok (.iaload, 1) := by decide +kernel
theorem dX4_at_18 : decode cX4_at 18 = .ok (.goto 4, 3) := by decide +kernel
theorem dX4_at_21 : decode cX4_at 21 = .ok (.iconst 0, 1) := by decide +kernel
theorem dX4_at_22 : decode cX4_at 22 = .ok (.ireturn, 1) := by decide +kernel
theorem dX4_change_0 : decode cX4_change 0 = .ok (.iload_n 1, 1) := by decide +kernel
theorem dX4_change_1 : decode cX4_change 1 = .ok (.ifCond .lt 22, 3) := by decide +kernel
theorem dX4_change_4 : decode cX4_change 4 = .ok (.iload_n 1, 1) := by decide +kernel
theorem dX4_change_5 : decode cX4_change 5 = .ok (.aload_n 0, 1) := by decide +kernel
theorem dX4_change_6 : decode cX4_change 6 = .ok (.getfield 15, 3) := by decide +kernel
theorem dX4_change_9 : decode cX4_change 9 = .ok (.if_icmp .ge 14, 3) := by decide +kernel
theorem dX4_change_12 : decode cX4_change 12 = .ok (.aload_n 0, 1) := by decide +kernel
theorem dX4_change_13 : decode cX4_change 13 = .ok (.getfield 18, 3) := by decide +kernel
theorem dX4_change_16 : decode cX4_change 16 = .ok (.iload_n 1, 1) := by decide +kernel
theorem dX4_change_17 : decode cX4_change 17 = .ok (.aload_n 0, 1) := by decide +kernel
theorem dX4_change_18 : decode cX4_change 18 = .ok (.iload_n 2, 1) := by decide +kernel
theorem dX4_change_19 : decode cX4_change 19 = .ok (.invokevirtual 40, 3) := by decide +kernel
theorem dX4_change_22 : decode cX4_change 22 = .ok (.iastore, 1) := by decide +kernel
theorem dX4_change_23 : decode cX4_change 23 = .ok (.return_, 1) := by decide +kernel
theorem dX4_cut_0 : decode cX4_cut 0 = .ok (.aload_n 0, 1) := by decide +kernel
theorem dX4_cut_1 : decode cX4_cut 1 = .ok (.getfield 11, 3) := by decide +kernel
theorem dX4_cut_4 : decode cX4_cut 4 = .ok (.lookupswitch 34 #[(0, 28), (1, 31)], 28) := by decide +kernel
theorem dX4_cut_32 : decode cX4_cut 32 = .ok (.iload_n 1, 1) := by decide +kernel
theorem dX4_cut_33 : decode cX4_cut 33 = .ok (.i2b, 1) := by decide +kernel
theorem dX4_cut_34 : decode cX4_cut 34 = .ok (.ireturn, 1) := by decide +kernel
theorem dX4_cut_35 : decode cX4_cut 35 = .ok (.iload_n 1, 1) := by decide +kernel
theorem dX4_cut_36 : decode cX4_cut 36 = .ok (.i2s, 1) := by decide +kernel
theorem dX4_cut_37 : decode cX4_cut 37 = .ok (.ireturn, 1) := by decide +kernel
theorem dX4_cut_38 : decode cX4_cut 38 = .ok (.iload_n 1, 1) := by decide +kernel
theorem dX4_cut_39 : decode cX4_cut 39 = .ok (.ireturn, 1) := by decide +kernel
theorem dX5_init_0 : decode cX5_init 0 = .ok (.aload_n 0, 1) := by decide +kernel
theorem dX5_init_1 : decode cX5_init 1 = .ok (.invokespecial 3, 3) := by decide +kernel
theorem dX5_init_4 : decode cX5_init 4 = .ok (.aload_n 0, 1) := by decide +kernel
theorem dX5_init_5 : decode cX5_init 5 = .ok (.iconst 0, 1) := by decide +kernel
theorem dX5_init_6 : decode cX5_init 6 = .ok (.newarray .int, 2) := by decide +kernel
theorem dX5_init_8 : decode cX5_init 8 = .ok (.putfield 9, 3) := by decide +kernel
theorem dX5_init_11 : decode cX5_init 11 = .ok (.aload_n 0, 1) := by decide +kernel
theorem dX5_init_12 : decode cX5_init 12 = .ok (.iconst 0, 1) := by decide +kernel
theorem dX5_init_13 : decode cX5_init 13 = .ok (.newarray .int, 2) := by decide +kernel
theorem dX5_init_15 : decode cX5_init 15 = .ok (.putfield 15, 3) := by decide +kernel
theorem dX5_init_18 : decode cX5_init 18 = .ok (.aload_n 0, 1) := by decide +kernel
theorem dX5_init_19 : decode cX5_init 19 = .ok (.iconst 0, 1) := by decide +kernel
theorem dX5_init_20 : decode cX5_init 20 = .ok (.newarray .int, 2) := by decide +kernel
theorem dX5_init_22 : decode cX5_init 22 = .ok (.putfield 18, 3) := by decide +kernel
theorem dX5_init_25 : decode cX5_init 25 = .ok (.aload_n 0, 1) := by decide +kernel
theorem dX5_init_26 : decode cX5_init 26 = .ok (.iconst 0, 1) := by decide +kernel
theorem dX5_init_27 : decode cX5_init 27 = .ok (.putfield 21, 3) := by decide +kernel
theorem dX5_init_30 : decode cX5_init 30 = .ok (.aload_n 0, 1) := by decide +kernel
theorem dX5_init_31 : decode cX5_init 31 = .ok (.bipush (-9), 2) := by decide +kernel
theorem dX5_init_33 : decode cX5_init 33 = .ok (.putfield 25, 3) := by decide +kernel
theorem dX5_init_36 : decode cX5_init 36 = .ok (.return_, 1) := by decide +kernel
theorem dX5_forget_0 : decode cX5_forget 0 = .ok (.aload_n 0, 1) := by decide +kernel
theorem dX5_forget_1 : decode cX5_forget 1 = .ok (.bipush (-9), 2) := by decide +kernel
theorem dX5_forget_3 : decode cX5_forget 3 = .ok (.putfield 25, 3) := by decide +kernel
theorem dX5_forget_6 : decode cX5_forget 6 = .ok (.return_, 1) := by decide +kernel
theorem dX5_goTo_0 : decode cX5_goTo 0 = .ok (.aload_n 0, 1) := by decide +kernel
theorem dX5_goTo_1 : decode cX5_goTo 1 = .ok (.getfield 25, 3) := by decide +kernel
theorem dX5_goTo_4 : decode cX5_goTo 4 = .ok (.bipush (-9), 2) := by decide +kernel
theorem dX5_goTo_6 : decode cX5_goTo 6 = .ok (.if_icmp .eq 11, 3) := by decide +kernel
theorem dX5_goTo_9 : decode cX5_goTo 9 = .ok (.aload_n 0, 1) := by decide +kernel
theorem dX5_goTo_10 : decode cX5_goTo 10 = .ok (.getfield 25, 3) := by decide +kernel
theorem dX5_goTo_13 : decode cX5_goTo 13 = .ok (.iload_n 2, 1) := by decide +kernel
theorem dX5_goTo_14 : decode cX5_goTo 14 = .ok (.if_icmp .le 8, 3) := by decide +kernel
theorem dX5_goTo_17 : decode cX5_goTo 17 = .ok (.aload_n 0, 1) := by decide +kernel
theorem dX5_goTo_18 : decode cX5_goTo 18 = .ok (.aload_n 1, 1) := by decide +kernel
theorem dX5_goTo_19 : decode cX5_goTo 19 = .ok (.invokevirtual 28, 3) := by decide +kernel
theorem dX5_goTo_22 : decode cX5_goTo 22 = .ok (.aload_n 0, 1) := by decide +kernel
theorem dX5_goTo_23 : decode cX5_goTo 23 = .ok (.getfield 25, 3) := by decide +kernel
theorem dX5_goTo_26 : decode cX5_goTo 26 = .ok (.istore_n 3, 1) := by decide +kernel
theorem dX5_goTo_27 : decode cX5_goTo 27 = .ok (.iload_n 3, 1) := by decide +kernel
theorem dX5_goTo_28 : decode cX5_goTo 28 = .ok (.iload_n 2, 1) := by decide +kernel
theorem dX5_goTo_29 : decode cX5_goTo 29 = .ok (.if_icmp .ge 14, 3) := by decide +kernel
theorem dX5_goTo_32 : decode cX5_goTo 32 = .ok (.aload_n 0, 1) := by decide +kernel
theorem dX5_goTo_33 : decode cX5_goTo 33 = .ok (.aload_n 1, 1) := by decide +kernel
theorem dX5_goTo_34 : decode cX5_goTo 34 = .ok (.invokevirtual 32, 3) := by decide +kernel
theorem dX5_goTo_37 : decode cX5_goTo 37 = .ok (.iinc 3 1, 3) := by decide +kernel
theorem dX5_goTo_40 : decode cX5_goTo 40 = .ok (.goto (-13), 3) := by decide +kernel
theorem dX5_goTo_43 : decode cX5_goTo 43 = .ok (.aload_n 0, 1) := by decide +kernel
theorem dX5_goTo_44 : decode cX5_goTo 44 = .ok (.iload_n 2, 1) := by decide +kernel
theorem dX5_goTo_45 : decode cX5_goTo 45 = .ok (.putfield 25, 3) := by decide +kernel
theorem dX5_goTo_48 : decode cX5_goTo 48 = .ok (.return_, 1) := by decide +kernel
theorem dX5_begin_0 : decode cX5_begin 0 = .ok (.aload_n 0, 1) := by decide +kernel
theorem dX5_begin_1 : decode cX5_begin 1 = .ok (.getfield 9, 3) := by decide +kernel
theorem dX5_begin_4 : decode cX5_begin 4 = .ok (.arraylength, 1) := by decide +kernel
theorem dX5_begin_5 : decode cX5_begin 5 = .ok (.aload_n 1, 1) := by decide +kernel
theorem dX5_begin_6 : decode cX5_begin 6 = .ok (.getfield 35, 3) := by decide +kernel
theorem dX5_begin_9 : decode cX5_begin 9 = .ok (.if_icmp .ge 33, 3) := by decide +kernel
theorem dX5_begin_12 : decode cX5_begin 12 = .ok (.aload_n 0, 1) := by decide +kernel
theorem dX5_begin_13 : decode cX5_begin 13 = .ok (.aload_n 1, 1) := by decide +kernel
theorem dX5_begin_14 : decode cX5_begin 14 = .ok (.getfield 35, 3) := by decide +kernel
theorem dX5_begin_17 : decode cX5_begin 17 = .ok (.newarray .int, 2) := by decide +kernel
theorem dX5_begin_19 : decode cX5_begin 19 = .ok (.putfield 9, 3) := by decide +kernel
theorem dX5_begin_22 : decode cX5_begin 22 = .ok (.aload_n 0, 1) := by decide +kernel
theorem dX5_begin_23 : decode cX5_begin 23 = .ok (.aload_n 1, 1) := by decide +kernel
theorem dX5_begin_24 : decode cX5_begin 24 = .ok (.getfield 35, 3) := by decide +kernel
theorem dX5_begin_27 : decode cX5_begin 27 = .ok (.newarray .int, 2) := by decide +kernel
theorem dX5_begin_29 : decode cX5_begin 29 = .ok (.putfield 15, 3) := by decide +kernel
theorem dX5_begin_32 : decode cX5_begin 32 = .ok (.aload_n 0, 1) := by decide +kernel
theorem dX5_begin_33 : decode cX5_begin 33 = .ok (.aload_n 1, 1) := by decide +kernel
theorem dX5_begin_34 : decode cX5_begin 34 = .ok (.getfield 35, 3) := by decide +kernel
theorem dX5_begin_37 : decode cX5_begin 37 = .ok (.newarray .int, 2) := by decide +kernel
theorem dX5_begin_39 : decode cX5_begin 39 = .ok (.putfield 18, 3) := by decide +kernel
theorem dX5_begin_42 : decode cX5_begin 42 = .ok (.iconst 0, 1) := by decide +kernel
theorem dX5_begin_43 : decode cX5_begin 43 = .ok (.istore_n 2, 1) := by decide +kernel
theorem dX5_begin_44 : decode cX5_begin 44 = .ok (.iload_n 2, 1) := by decide +kernel
theorem dX5_begin_45 : decode cX5_begin 45 = .ok (.aload_n 1, 1) := by decide +kernel
theorem dX5_begin_46 : decode cX5_begin 46 = .ok (.getfield 35, 3) := by decide +kernel
theorem dX5_begin_49 : decode cX5_begin 49 = .ok (.if_icmp .ge 23, 3) := by decide +kernel
theorem dX5_begin_52 : decode cX5_begin 52 = .ok (.aload_n 0, 1) := by decide +kernel
theorem dX5_begin_53 : decode cX5_begin 53 = .ok (.getfield 9, 3) := by decide +kernel
theorem dX5_begin_56 : decode cX5_begin 56 = .ok (.iload_n 2, 1) := by decide +kernel
theorem dX5_begin_57 : decode cX5_begin 57 = .ok (.iload_n 2, 1) := by decide +kernel
theorem dX5_begin_58 : decode cX5_begin 58 = .ok (.iastore, 1) := by decide +kernel
theorem dX5_begin_59 : decode cX5_begin 59 = .ok (.aload_n 0, 1) := by decide +kernel
theorem dX5_begin_60 : decode cX5_begin 60 = .ok (.getfield 15, 3) := by decide +kernel
theorem dX5_begin_63 : decode cX5_begin 63 = .ok (.iload_n 2, 1) := by decide +kernel
theorem dX5_begin_64 : decode cX5_begin 64 = .ok (.iconst 1, 1) := by decide +kernel
theorem dX5_begin_65 : decode cX5_begin 65 = .ok (.iastore, 1) := by decide +kernel
theorem dX5_begin_66 : decode cX5_begin 66 = .ok (.iinc 2 1, 3) := by decide +kernel
theorem dX5_begin_69 : decode cX5_begin 69 = .ok (.goto (-25), 3) := by decide +kernel
theorem dX5_begin_72 : decode cX5_begin 72 = .ok (.aload_n 0, 1) := by decide +kernel
theorem dX5_begin_73 : decode cX5_begin 73 = .ok (.aload_n 1, 1) := by decide +kernel
theorem dX5_begin_74 : decode cX5_begin 74 = .ok (.getfield 35, 3) := by decide +kernel
theorem dX5_begin_77 : decode cX5_begin 77 = .ok (.putfield 21, 3) := by decide +kernel
theorem dX5_begin_80 : decode cX5_begin 80 = .ok (.aload_n 0, 1) := by decide +kernel
theorem dX5_begin_81 : decode cX5_begin 81 = .ok (.iconst 0, 1) := by decide +kernel
theorem dX5_begin_82 : decode cX5_begin 82 = .ok (.putfield 25, 3) := by decide +kernel
theorem dX5_begin_85 : decode cX5_begin 85 = .ok (.return_, 1) := by decide +kernel
theorem dX5_stepAll_0 : decode cX5_stepAll 0 = .ok (.iconst 0, 1) := by decide +kernel
theorem dX5_stepAll_1 : decode cX5_stepAll 1 = .ok (.istore_n 2, 1) := by decide +kernel
theorem dX5_stepAll_2 : decode cX5_stepAll 2 = .ok (.iconst 0, 1) := by decide +kernel
theorem dX5_stepAll_3 : decode cX5_stepAll 3 = .ok (.istore_n 3, 1) := by decide +kernel
theorem dX5_stepAll_4 : decode cX5_stepAll 4 = .ok (.iload_n 3, 1) := by decide +kernel
theorem dX5_stepAll_5 : decode cX5_stepAll 5 = .ok (.aload_n 0, 1) := by decide +kernel
theorem dX5_stepAll_6 : decode cX5_stepAll 6 = .ok (.getfield 21, 3) := by decide +kernel
theorem dX5_stepAll_9 : decode cX5_stepAll 9 = .ok (.if_icmp .ge 98, 3) := by decide +kernel
theorem dX5_stepAll_12 : decode cX5_stepAll 12 = .ok (.aload_n 1, 1) := by decide +kernel
theorem dX5_stepAll_13 : decode cX5_stepAll 13 = .ok (.aload_n 0, 1) := by decide +kernel
theorem dX5_stepAll_14 : decode cX5_stepAll 14 = .ok (.getfield 9, 3) := by decide +kernel
theorem dX5_stepAll_17 : decode cX5_stepAll 17 = .ok (.iload_n 3, 1) := by decide +kernel
theorem dX5_stepAll_18 : decode cX5_stepAll 18 = .ok (.iaload, 1) := by decide +kernel
theorem dX5_stepAll_19 : decode cX5_stepAll 19 = .ok (.invokevirtual 40, 3) := by decide +kernel
theorem dX5_stepAll_22 : decode cX5_stepAll 22 = .ok (.istore 4, 2) := by decide +kernel
theorem dX5_stepAll_24 : decode cX5_stepAll 24 = .ok (.aload_n 0, 1) := by decide +kernel
theorem dX5_stepAll_25 : decode cX5_stepAll 25 = .ok (.getfield 18, 3) := by decide +kernel
theorem dX5_stepAll_28 : decode cX5_stepAll 28 = .ok (.iload 4, 2) := by decide +kernel
theorem dX5_stepAll_30 : decode cX5_stepAll 30 = .ok (.iaload, 1) := by decide +kernel
theorem dX5_stepAll_31 : decode cX5_stepAll 31 = .ok (.istore 5, 2) := by decide +kernel
theorem dX5_stepAll_33 : decode cX5_stepAll 33 = .ok (.iload 5, 2) := by decide +kernel
theorem dX5_stepAll_35 : decode cX5_stepAll 35 = .ok (.iload_n 2, 1) := by decide +kernel
theorem dX5_stepAll_36 : decode cX5_stepAll 36 = .ok (.if_icmp .ge 34, 3) := by decide +kernel
theorem dX5_stepAll_39 : decode cX5_stepAll 39 = .ok (.aload_n 0, 1) := by decide +kernel
theorem dX5_stepAll_40 : decode cX5_stepAll 40 = .ok (.getfield 9, 3) := by decide +kernel
theorem dX5_stepAll_43 : decode cX5_stepAll 43 = .ok (.iload 5, 2) := by decide +kernel
theorem dX5_stepAll_45 : decode cX5_stepAll 45 = .ok (.iaload, 1) := by decide +kernel
theorem dX5_stepAll_46 : decode cX5_stepAll 46 = .ok (.iload 4, 2) := by decide +kernel
theorem dX5_stepAll_48 : decode cX5_stepAll 48 = .ok (.if_icmp .ne 22, 3) := by decide +kernel
theorem dX5_stepAll_51 : decode cX5_stepAll 51 = .ok (.aload_n 0, 1) := by decide +kernel
theorem dX5_stepAll_52 : decode cX5_stepAll 52 = .ok (.getfield 15, 3) := by decide +kernel
theorem dX5_stepAll_55 : decode cX5_stepAll 55 = .ok (.iload 5, 2) := by decide +kernel
theorem dX5_stepAll_57 : decode cX5_stepAll 57 = .ok (.dup2, 1) := by decide +kernel
theorem dX5_stepAll_58 : decode cX5_stepAll 58 = .ok (.iaload, 1) := by decide +kernel
theorem dX5_stepAll_59 : decode cX5_stepAll 59 = .ok (.aload_n 0, 1) := by decide +kernel
theorem dX5_stepAll_60 : decode cX5_stepAll 60 = .ok (.getfield 15, 3) := by decide +kernel
theorem dX5_stepAll_63 : decode cX5_stepAll 63 = .ok (.iload_n 3, 1) := by decide +kernel
theorem dX5_stepAll_64 : decode cX5_stepAll 64 = .ok (.iaload, 1) := by decide +kernel
theorem dX5_stepAll_65 : decode cX5_stepAll 65 = .ok (.iadd, 1) := by decide +kernel
theorem dX5_stepAll_66 : decode cX5_stepAll 66 = .ok (.iastore, 1) := by decide +kernel
theorem dX5_stepAll_67 : decode cX5_stepAll 67 = .ok (.goto 34, 3) := by decide +kernel
theorem dX5_stepAll_70 : decode cX5_stepAll 70 = .ok (.aload_n 0, 1) := by decide +kernel
theorem dX5_stepAll_71 : decode cX5_stepAll 71 = .ok (.getfield 18, 3) := by decide +kernel
theorem dX5_stepAll_74 : decode cX5_stepAll 74 = .ok (.iload 4, 2) := by decide +kernel
theorem dX5_stepAll_76 : decode cX5_stepAll 76 = .ok (.iload_n 2, 1) := by decide +kernel
theorem dX5_stepAll_77 : decode cX5_stepAll 77 = .ok (.iastore, 1) := by decide +kernel
theorem dX5_stepAll_78 : decode cX5_stepAll 78 = .ok (.aload_n 0, 1) := by decide +kernel
theorem dX5_stepAll_79 : decode cX5_stepAll 79 = .ok (.getfield 9, 3) := by decide +kernel
theorem dX5_stepAll_82 : decode cX5_stepAll 82 = .ok (.iload_n 2, 1) := by decide +kernel
theorem dX5_stepAll_83 : decode cX5_stepAll 83 = .ok (.iload 4, 2) := by decide +kernel
theorem dX5_stepAll_85 : decode cX5_stepAll 85 = .ok (.iastore, 1) := by decide +kernel
theorem dX5_stepAll_86 : decode cX5_stepAll 86 = .ok (.aload_n 0, 1) := by decide +kernel
theorem dX5_stepAll_87 : decode cX5_stepAll 87 = .ok (.getfield 15, 3) := by decide +kernel
theorem dX5_stepAll_90 : decode cX5_stepAll 90 = .ok (.iload_n 2, 1) := by decide +kernel
theorem dX5_stepAll_91 : decode cX5_stepAll 91 = .ok (.aload_n 0, 1) := by decide +kernel
theorem dX5_stepAll_92 : decode cX5_stepAll 92 = .ok (.getfield 15, 3) := by decide +kernel
theorem dX5_stepAll_95 : decode cX5_stepAll 95 = .ok (.iload_n 3, 1) := by decide +kernel
theorem dX5_stepAll_96 : decode cX5_stepAll 96 = .ok (.iaload, 1) := by decide +kernel
theorem dX5_stepAll_97 : decode cX5_stepAll 97 = .ok (.iastore, 1) := by decide +kernel
theorem dX5_stepAll_98 : decode cX5_stepAll 98 = .ok (.iinc 2 1, 3) := by decide +kernel
theorem dX5_stepAll_101 : decode cX5_stepAll 101 = .ok (.iinc 3 1, 3) := by decide +kernel
theorem dX5_stepAll_104 : decode cX5_stepAll 104 = .ok (.goto (-100), 3) := by decide +kernel
theorem dX5_stepAll_107 : decode cX5_stepAll 107 = .ok (.aload_n 0, 1) := by decide +kernel
theorem dX5_stepAll_108 : decode cX5_stepAll 108 = .ok (.iload_n 2, 1) := by decide +kernel
theorem dX5_stepAll_109 : decode cX5_stepAll 109 = .ok (.putfield 21, 3) := by decide +kernel
theorem dX5_stepAll_112 : decode cX5_stepAll 112 = .ok (.return_, 1) := by decide +kernel
theorem dX5_howMany_0 : decode cX5_howMany 0 = .ok (.iconst 0, 1) := by decide +kernel
theorem dX5_howMany_1 : decode cX5_howMany 1 = .ok (.istore 4, 2) := by decide +kernel
theorem dX5_howMany_3 : decode cX5_howMany 3 = .ok (.iconst 0, 1) := by decide +kernel
theorem dX5_howMany_4 : decode cX5_howMany 4 = .ok (.istore 5, 2) := by decide +kernel
theorem dX5_howMany_6 : decode cX5_howMany 6 = .ok (.iload 5, 2) := by decide +kernel
theorem dX5_howMany_8 : decode cX5_howMany 8 = .ok (.aload_n 0, 1) := by decide +kernel
theorem dX5_howMany_9 : decode cX5_howMany 9 = .ok (.getfield 21, 3) := by decide +kernel
theorem dX5_howMany_12 : decode cX5_howMany 12 = .ok (.if_icmp .ge 37, 3) := by decide +kernel
theorem dX5_howMany_15 : decode cX5_howMany 15 = .ok (.aload_n 1, 1) := by decide +kernel
theorem dX5_howMany_16 : decode cX5_howMany 16 = .ok (.aload_n 0, 1) := by decide +kernel
theorem dX5_howMany_17 : decode cX5_howMany 17 = .ok (.getfield 9, 3) := by decide +kernel
theorem dX5_howMany_20 : decode cX5_howMany 20 = .ok (.iload 5, 2) := by decide +kernel
theorem dX5_howMany_22 : decode cX5_howMany 22 = .ok (.iaload, 1) := by decide +kernel
theorem dX5_howMany_23 : decode cX5_howMany 23 = .ok (.iload_n 2, 1) := by decide +kernel
theorem dX5_howMany_24 : decode cX5_howMany 24 = .ok (.invokevirtual 44, 3) := by decide +kernel
theorem dX5_howMany_27 : decode cX5_howMany 27 = .ok (.iload_n 3, 1) := by decide +kernel
theorem dX5_howMany_28 : decode cX5_howMany 28 = .ok (.if_icmp .ne 15, 3) := by decide +kernel
theorem dX5_howMany_31 : decode cX5_howMany 31 = .ok (.iload 4, 2) := by decide +kernel
theorem dX5_howMany_33 : decode cX5_howMany 33 = .ok (.aload_n 0, 1) := by decide +kernel
theorem dX5_howMany_34 : decode cX5_howMany 34 = .ok (.getfield 15, 3) := by decide +kernel
theorem dX5_howMany_37 : decode cX5_howMany 37 = .ok (.iload 5, 2) := by decide +kernel
theorem dX5_howMany_39 : decode cX5_howMany 39 = .ok (.iaload, 1) := by decide +kernel
theorem dX5_howMany_40 : decode cX5_howMany 40 = .ok (.iadd, 1) := by decide +kernel
theorem dX5_howMany_41 : decode cX5_howMany 41 = .ok (.istore 4, 2) := by decide +kernel
theorem dX5_howMany_43 : decode cX5_howMany 43 = .ok (.iinc 5 1, 3) := by decide +kernel
theorem dX5_howMany_46 : decode cX5_howMany 46 = .ok (.goto (-40), 3) := by decide +kernel
theorem dX5_howMany_49 : decode cX5_howMany 49 = .ok (.iload 4, 2) := by decide +kernel
theorem dX5_howMany_51 : decode cX5_howMany 51 = .ok (.ireturn, 1) := by decide +kernel
theorem dX6_firstFault_0 : decode cX6_firstFault 0 = .ok (.iconst 0, 1) := by decide +kernel
theorem dX6_firstFault_1 : decode cX6_firstFault 1 = .ok (.istore_n 3, 1) := by decide +kernel
theorem dX6_firstFault_2 : decode cX6_firstFault 2 = .ok (.iconst 0, 1) := by decide +kernel
theorem dX6_firstFault_3 : decode cX6_firstFault 3 = .ok (.istore 4, 2) := by decide +kernel
theorem dX6_firstFault_5 : decode cX6_firstFault 5 = .ok (.iload 4, 2) := by decide +kernel
theorem dX6_firstFault_7 : decode cX6_firstFault 7 = .ok (.iload_n 2, 1) := by decide +kernel
theorem dX6_firstFault_8 : decode cX6_firstFault 8 = .ok (.if_icmp .ge 45, 3) := by decide +kernel
theorem dX6_firstFault_11 : decode cX6_firstFault 11 = .ok (.aload_n 0, 1) := by decide +kernel
theorem dX6_firstFault_12 : decode cX6_firstFault 12 = .ok (.iload_n 1, 1) := by decide +kernel
theorem dX6_firstFault_13 : decode cX6_firstFault 13 = .ok (.iload 4, 2) := by decide +kernel
theorem dX6_firstFault_15 : decode cX6_firstFault 15 = .ok (.iadd, 1) := by decide +kernel
theorem dX6_firstFault_16 : decode cX6_firstFault 16 = .ok (.invokevirtual 9, 3) := by decide +kernel
theorem dX6_firstFault_19 : decode cX6_firstFault 19 = .ok (.istore 5, 2) := by decide +kernel
theorem dX6_firstFault_21 : decode cX6_firstFault 21 = .ok (.iload 4, 2) := by decide +kernel
theorem dX6_firstFault_23 : decode cX6_firstFault 23 = .ok (.iload 5, 2) := by decide +kernel
theorem dX6_firstFault_25 : decode cX6_firstFault 25 = .ok (.iload_n 3, 1) := by decide +kernel
theorem dX6_firstFault_26 : decode cX6_firstFault 26 = .ok (.invokestatic 15, 3) := by decide +kernel
theorem dX6_firstFault_29 : decode cX6_firstFault 29 = .ok (.ifCond .ne 6, 3) := by decide +kernel
end
section
theorem dX6_firstFault_32 : decode cX6_firstFault 32 = .ok (.iload 4, 2) := by decide +kernel
theorem dX6_firstFault_34 : decode cX6_firstFault 34 = .ok (.ireturn, 1) := by decide +kernel
theorem dX6_firstFault_35 : decode cX6_firstFault 35 = .ok (.iload 4, 2) := by decide +kernel
theorem dX6_firstFault_37 : decode cX6_firstFault 37 = .ok (.iconst 1, 1) := by decide +kernel
theorem dX6_firstFault_38 : decode cX6_firstFault 38 = .ok (.if_icmp .ne 9, 3) := by decide +kernel
theorem dX6_firstFault_41 : decode cX6_firstFault 41 = .ok (.iload 5, 2) := by decide +kernel
theorem dX6_firstFault_43 : decode cX6_firstFault 43 = .ok (.bipush 48, 2) := by decide +kernel
theorem dX6_firstFault_45 : decode cX6_firstFault 45 = .ok (.isub, 1) := by decide +kernel
theorem dX6_firstFault_46 : decode cX6_firstFault 46 = .ok (.istore_n 3, 1) := by decide +kernel
theorem dX6_firstFault_47 : decode cX6_firstFault 47 = .ok (.iinc 4 1, 3) := by decide +kernel
theorem dX6_firstFault_50 : decode cX6_firstFault 50 = .ok (.goto (-45), 3) := by decide +kernel
theorem dX6_firstFault_53 : decode cX6_firstFault 53 = .ok (.iload_n 2, 1) := by decide +kernel
theorem dX6_firstFault_54 : decode cX6_firstFault 54 = .ok (.bipush 8, 2) := by decide +kernel
theorem dX6_firstFault_56 : decode cX6_firstFault 56 = .ok (.if_icmp .lt 15, 3) := by decide +kernel
theorem dX6_firstFault_59 : decode cX6_firstFault 59 = .ok (.iload_n 2, 1) := by decide +kernel
theorem dX6_firstFault_60 : decode cX6_firstFault 60 = .ok (.iconst 2, 1) := by decide +kernel
theorem dX6_firstFault_61 : decode cX6_firstFault 61 = .ok (.isub, 1) := by decide +kernel
theorem dX6_firstFault_62 : decode cX6_firstFault 62 = .ok (.iconst 3, 1) := by decide +kernel
theorem dX6_firstFault_63 : decode cX6_firstFault 63 = .ok (.irem, 1) := by decide +kernel
theorem dX6_firstFault_64 : decode cX6_firstFault 64 = .ok (.ifCond .ne 7, 3) := by decide +kernel
theorem dX6_firstFault_67 : decode cX6_firstFault 67 = .ok (.iconst 1, 1) := by decide +kernel
theorem dX6_firstFault_68 : decode cX6_firstFault 68 = .ok (.goto 4, 3) := by decide +kernel
theorem dX6_firstFault_71 : decode cX6_firstFault 71 = .ok (.iconst 0, 1) := by decide +kernel
theorem dX6_firstFault_72 : decode cX6_firstFault 72 = .ok (.istore 4, 2) := by decide +kernel
theorem dX6_firstFault_74 : decode cX6_firstFault 74 = .ok (.iload 4, 2) := by decide +kernel
theorem dX6_firstFault_76 : decode cX6_firstFault 76 = .ok (.ifCond .eq 8, 3) := by decide +kernel
theorem dX6_firstFault_79 : decode cX6_firstFault 79 = .ok (.bipush (-9), 2) := by decide +kernel
theorem dX6_firstFault_81 : decode cX6_firstFault 81 = .ok (.goto 4, 3) := by decide +kernel
theorem dX6_firstFault_84 : decode cX6_firstFault 84 = .ok (.iload_n 2, 1) := by decide +kernel
theorem dX6_firstFault_85 : decode cX6_firstFault 85 = .ok (.ireturn, 1) := by decide +kernel
theorem dX6_goesOn_0 : decode cX6_goesOn 0 = .ok (.iload_n 0, 1) := by decide +kernel
theorem dX6_goesOn_1 : decode cX6_goesOn 1 = .ok (.ifCond .ne 15, 3) := by decide +kernel
theorem dX6_goesOn_4 : decode cX6_goesOn 4 = .ok (.iload_n 1, 1) := by decide +kernel
theorem dX6_goesOn_5 : decode cX6_goesOn 5 = .ok (.bipush 114, 2) := by decide +kernel
theorem dX6_goesOn_7 : decode cX6_goesOn 7 = .ok (.if_icmp .ne 7, 3) := by decide +kernel
theorem dX6_goesOn_10 : decode cX6_goesOn 10 = .ok (.iconst 1, 1) := by decide +kernel
theorem dX6_goesOn_11 : decode cX6_goesOn 11 = .ok (.goto 4, 3) := by decide +kernel
theorem dX6_goesOn_14 : decode cX6_goesOn 14 = .ok (.iconst 0, 1) := by decide +kernel
theorem dX6_goesOn_15 : decode cX6_goesOn 15 = .ok (.ireturn, 1) := by decide +kernel
theorem dX6_goesOn_16 : decode cX6_goesOn 16 = .ok (.iload_n 0, 1) := by decide +kernel
theorem dX6_goesOn_17 : decode cX6_goesOn 17 = .ok (.iconst 1, 1) := by decide +kernel
theorem dX6_goesOn_18 : decode cX6_goesOn 18 = .ok (.if_icmp .ne 21, 3) := by decide +kernel
theorem dX6_goesOn_21 : decode cX6_goesOn 21 = .ok (.iload_n 1, 1) := by decide +kernel
theorem dX6_goesOn_22 : decode cX6_goesOn 22 = .ok (.bipush 50, 2) := by decide +kernel
theorem dX6_goesOn_24 : decode cX6_goesOn 24 = .ok (.if_icmp .lt 13, 3) := by decide +kernel
theorem dX6_goesOn_27 : decode cX6_goesOn 27 = .ok (.iload_n 1, 1) := by decide +kernel
theorem dX6_goesOn_28 : decode cX6_goesOn 28 = .ok (.bipush 54, 2) := by decide +kernel
theorem dX6_goesOn_30 : decode cX6_goesOn 30 = .ok (.if_icmp .gt 7, 3) := by decide +kernel
theorem dX6_goesOn_33 : decode cX6_goesOn 33 = .ok (.iconst 1, 1) := by decide +kernel
theorem dX6_goesOn_34 : decode cX6_goesOn 34 = .ok (.goto 4, 3) := by decide +kernel
theorem dX6_goesOn_37 : decode cX6_goesOn 37 = .ok (.iconst 0, 1) := by decide +kernel
theorem dX6_goesOn_38 : decode cX6_goesOn 38 = .ok (.ireturn, 1) := by decide +kernel
theorem dX6_goesOn_39 : decode cX6_goesOn 39 = .ok (.iload_n 0, 1) := by decide +kernel
theorem dX6_goesOn_40 : decode cX6_goesOn 40 = .ok (.iconst 2, 1) := by decide +kernel
theorem dX6_goesOn_41 : decode cX6_goesOn 41 = .ok (.isub, 1) := by decide +kernel
theorem dX6_goesOn_42 : decode cX6_goesOn 42 = .ok (.iconst 3, 1) := by decide +kernel
theorem dX6_goesOn_43 : decode cX6_goesOn 43 = .ok (.irem, 1) := by decide +kernel
theorem dX6_goesOn_44 : decode cX6_goesOn 44 = .ok (.lookupswitch 64 #[(0, 28), (1, 49)], 28) := by decide +kernel
theorem dX6_goesOn_72 : decode cX6_goesOn 72 = .ok (.iload_n 1, 1) := by decide +kernel
theorem dX6_goesOn_73 : decode cX6_goesOn 73 = .ok (.bipush 59, 2) := by decide +kernel
theorem dX6_goesOn_75 : decode cX6_goesOn 75 = .ok (.if_icmp .ne 16, 3) := by decide +kernel
theorem dX6_goesOn_78 : decode cX6_goesOn 78 = .ok (.iload_n 0, 1) := by decide +kernel
theorem dX6_goesOn_79 : decode cX6_goesOn 79 = .ok (.iconst 2, 1) := by decide +kernel
theorem dX6_goesOn_80 : decode cX6_goesOn 80 = .ok (.isub, 1) := by decide +kernel
theorem dX6_goesOn_81 : decode cX6_goesOn 81 = .ok (.iconst 3, 1) := by decide +kernel
theorem dX6_goesOn_82 : decode cX6_goesOn 82 = .ok (.idiv, 1) := by decide +kernel
theorem dX6_goesOn_83 : decode cX6_goesOn 83 = .ok (.iconst 5, 1) := by decide +kernel
theorem dX6_goesOn_84 : decode cX6_goesOn 84 = .ok (.if_icmp .ge 7, 3) := by decide +kernel
theorem dX6_goesOn_87 : decode cX6_goesOn 87 = .ok (.iconst 1, 1) := by decide +kernel
theorem dX6_goesOn_88 : decode cX6_goesOn 88 = .ok (.goto 4, 3) := by decide +kernel
theorem dX6_goesOn_91 : decode cX6_goesOn 91 = .ok (.iconst 0, 1) := by decide +kernel
theorem dX6_goesOn_92 : decode cX6_goesOn 92 = .ok (.ireturn, 1) := by decide +kernel
theorem dX6_goesOn_93 : decode cX6_goesOn 93 = .ok (.iload_n 1, 1) := by decide +kernel
theorem dX6_goesOn_94 : decode cX6_goesOn 94 = .ok (.invokestatic 21, 3) := by decide +kernel
theorem dX6_goesOn_97 : decode cX6_goesOn 97 = .ok (.bipush (-9), 2) := by decide +kernel
theorem dX6_goesOn_99 : decode cX6_goesOn 99 = .ok (.if_icmp .eq 7, 3) := by decide +kernel
theorem dX6_goesOn_102 : decode cX6_goesOn 102 = .ok (.iconst 1, 1) := by decide +kernel
theorem dX6_goesOn_103 : decode cX6_goesOn 103 = .ok (.goto 4, 3) := by decide +kernel
theorem dX6_goesOn_106 : decode cX6_goesOn 106 = .ok (.iconst 0, 1) := by decide +kernel
theorem dX6_goesOn_107 : decode cX6_goesOn 107 = .ok (.ireturn, 1) := by decide +kernel
theorem dX6_goesOn_108 : decode cX6_goesOn 108 = .ok (.iload_n 1, 1) := by decide +kernel
theorem dX6_goesOn_109 : decode cX6_goesOn 109 = .ok (.bipush 48, 2) := by decide +kernel
theorem dX6_goesOn_111 : decode cX6_goesOn 111 = .ok (.if_icmp .lt 15, 3) := by decide +kernel
theorem dX6_goesOn_114 : decode cX6_goesOn 114 = .ok (.iload_n 1, 1) := by decide +kernel
theorem dX6_goesOn_115 : decode cX6_goesOn 115 = .ok (.bipush 48, 2) := by decide +kernel
theorem dX6_goesOn_117 : decode cX6_goesOn 117 = .ok (.iload_n 2, 1) := by decide +kernel
theorem dX6_goesOn_118 : decode cX6_goesOn 118 = .ok (.iadd, 1) := by decide +kernel
theorem dX6_goesOn_119 : decode cX6_goesOn 119 = .ok (.if_icmp .ge 7, 3) := by decide +kernel
theorem dX6_goesOn_122 : decode cX6_goesOn 122 = .ok (.iconst 1, 1) := by decide +kernel
theorem dX6_goesOn_123 : decode cX6_goesOn 123 = .ok (.goto 4, 3) := by decide +kernel
theorem dX6_goesOn_126 : decode cX6_goesOn 126 = .ok (.iconst 0, 1) := by decide +kernel
theorem dX6_goesOn_127 : decode cX6_goesOn 127 = .ok (.ireturn, 1) := by decide +kernel
theorem dX6_kindOf_0 : decode cX6_kindOf 0 = .ok (.iload_n 0, 1) := by decide +kernel
theorem dX6_kindOf_1 : decode cX6_kindOf 1 = .ok (.lookupswitch 41 #[(102, 37), (109, 39), (112, 35)], 35) := by decide +kernel
theorem dX6_kindOf_36 : decode cX6_kindOf 36 = .ok (.iconst 0, 1) := by decide +kernel
theorem dX6_kindOf_37 : decode cX6_kindOf 37 = .ok (.ireturn, 1) := by decide +kernel
theorem dX6_kindOf_38 : decode cX6_kindOf 38 = .ok (.iconst 1, 1) := by decide +kernel
theorem dX6_kindOf_39 : decode cX6_kindOf 39 = .ok (.ireturn, 1) := by decide +kernel
theorem dX6_kindOf_40 : decode cX6_kindOf 40 = .ok (.iconst 2, 1) := by decide +kernel
theorem dX6_kindOf_41 : decode cX6_kindOf 41 = .ok (.ireturn, 1) := by decide +kernel
theorem dX6_kindOf_42 : decode cX6_kindOf 42 = .ok (.bipush (-9), 2) := by decide +kernel
theorem dX6_kindOf_44 : decode cX6_kindOf 44 = .ok (.ireturn, 1) := by decide +kernel
theorem dX6_take_0 : decode cX6_take 0 = .ok (.aload_n 3, 1) := by decide +kernel
theorem dX6_take_1 : decode cX6_take 1 = .ok (.aload_n 0, 1) := by decide +kernel
theorem dX6_take_2 : decode cX6_take 2 = .ok (.iload_n 1, 1) := by decide +kernel
theorem dX6_take_3 : decode cX6_take 3 = .ok (.iconst 1, 1) := by decide +kernel
theorem dX6_take_4 : decode cX6_take 4 = .ok (.iadd, 1) := by decide +kernel
theorem dX6_take_5 : decode cX6_take 5 = .ok (.invokevirtual 9, 3) := by decide +kernel
theorem dX6_take_8 : decode cX6_take 8 = .ok (.bipush 48, 2) := by decide +kernel
theorem dX6_take_10 : decode cX6_take 10 = .ok (.isub, 1) := by decide +kernel
theorem dX6_take_11 : decode cX6_take 11 = .ok (.putfield 24, 3) := by decide +kernel
theorem dX6_take_14 : decode cX6_take 14 = .ok (.aload_n 3, 1) := by decide +kernel
theorem dX6_take_15 : decode cX6_take 15 = .ok (.iload_n 2, 1) := by decide +kernel
theorem dX6_take_16 : decode cX6_take 16 = .ok (.iconst 2, 1) := by decide +kernel
theorem dX6_take_17 : decode cX6_take 17 = .ok (.isub, 1) := by decide +kernel
theorem dX6_take_18 : decode cX6_take 18 = .ok (.iconst 3, 1) := by decide +kernel
theorem dX6_take_19 : decode cX6_take 19 = .ok (.idiv, 1) := by decide +kernel
theorem dX6_take_20 : decode cX6_take 20 = .ok (.iconst 5, 1) := by decide +kernel
theorem dX6_take_21 : decode cX6_take 21 = .ok (.invokestatic 30, 3) := by decide +kernel
theorem dX6_take_24 : decode cX6_take 24 = .ok (.putfield 36, 3) := by decide +kernel
theorem dX6_take_27 : decode cX6_take 27 = .ok (.iconst 0, 1) := by decide +kernel
theorem dX6_take_28 : decode cX6_take 28 = .ok (.istore 4, 2) := by decide +kernel
theorem dX6_take_30 : decode cX6_take 30 = .ok (.iload 4, 2) := by decide +kernel
theorem dX6_take_32 : decode cX6_take 32 = .ok (.aload_n 3, 1) := by decide +kernel
theorem dX6_take_33 : decode cX6_take 33 = .ok (.getfield 36, 3) := by decide +kernel
theorem dX6_take_36 : decode cX6_take 36 = .ok (.if_icmp .ge 55, 3) := by decide +kernel
theorem dX6_take_39 : decode cX6_take 39 = .ok (.iload_n 1, 1) := by decide +kernel
theorem dX6_take_40 : decode cX6_take 40 = .ok (.iconst 2, 1) := by decide +kernel
theorem dX6_take_41 : decode cX6_take 41 = .ok (.iadd, 1) := by decide +kernel
theorem dX6_take_42 : decode cX6_take 42 = .ok (.iconst 3, 1) := by decide +kernel
theorem dX6_take_43 : decode cX6_take 43 = .ok (.iload 4, 2) := by decide +kernel
theorem dX6_take_45 : decode cX6_take 45 = .ok (.imul, 1) := by decide +kernel
theorem dX6_take_46 : decode cX6_take 46 = .ok (.iadd, 1) := by decide +kernel
theorem dX6_take_47 : decode cX6_take 47 = .ok (.istore 5, 2) := by decide +kernel
theorem dX6_take_49 : decode cX6_take 49 = .ok (.aload_n 3, 1) := by decide +kernel
theorem dX6_take_50 : decode cX6_take 50 = .ok (.getfield 39, 3) := by decide +kernel
theorem dX6_take_53 : decode cX6_take 53 = .ok (.iload 4, 2) := by decide +kernel
theorem dX6_take_55 : decode cX6_take 55 = .ok (.aload_n 0, 1) := by decide +kernel
theorem dX6_take_56 : decode cX6_take 56 = .ok (.iload 5, 2) := by decide +kernel
theorem dX6_take_58 : decode cX6_take 58 = .ok (.iconst 1, 1) := by decide +kernel
theorem dX6_take_59 : decode cX6_take 59 = .ok (.iadd, 1) := by decide +kernel
theorem dX6_take_60 : decode cX6_take 60 = .ok (.invokevirtual 9, 3) := by decide +kernel
theorem dX6_take_63 : decode cX6_take 63 = .ok (.invokestatic 21, 3) := by decide +kernel
theorem dX6_take_66 : decode cX6_take 66 = .ok (.iastore, 1) := by decide +kernel
theorem dX6_take_67 : decode cX6_take 67 = .ok (.aload_n 3, 1) := by decide +kernel
theorem dX6_take_68 : decode cX6_take 68 = .ok (.getfield 43, 3) := by decide +kernel
theorem dX6_take_71 : decode cX6_take 71 = .ok (.iload 4, 2) := by decide +kernel
theorem dX6_take_73 : decode cX6_take 73 = .ok (.aload_n 0, 1) := by decide +kernel
theorem dX6_take_74 : decode cX6_take 74 = .ok (.iload 5, 2) := by decide +kernel
theorem dX6_take_76 : decode cX6_take 76 = .ok (.iconst 2, 1) := by decide +kernel
theorem dX6_take_77 : decode cX6_take 77 = .ok (.iadd, 1) := by decide +kernel
theorem dX6_take_78 : decode cX6_take 78 = .ok (.invokevirtual 9, 3) := by decide +kernel
theorem dX6_take_81 : decode cX6_take 81 = .ok (.bipush 48, 2) := by decide +kernel
theorem dX6_take_83 : decode cX6_take 83 = .ok (.isub, 1) := by decide +kernel
theorem dX6_take_84 : decode cX6_take 84 = .ok (.iastore, 1) := by decide +kernel
theorem dX6_take_85 : decode cX6_take 85 = .ok (.iinc 4 1, 3) := by decide +kernel
theorem dX6_take_88 : decode cX6_take 88 = .ok (.goto (-58), 3) := by decide +kernel
theorem dX6_take_91 : decode cX6_take 91 = .ok (.return_, 1) := by decide +kernel
theorem dX7_init_0 : decode cX7_init 0 = .ok (.aload_n 0, 1) := by decide +kernel
theorem dX7_init_1 : decode cX7_init 1 = .ok (.invokespecial 3, 3) := by decide +kernel
theorem dX7_init_4 : decode cX7_init 4 = .ok (.aload_n 0, 1) := by decide +kernel
theorem dX7_init_5 : decode cX7_init 5 = .ok (.iconst 4, 1) := by decide +kernel
theorem dX7_init_6 : decode cX7_init 6 = .ok (.anewarray 11, 3) := by decide +kernel
theorem dX7_init_9 : decode cX7_init 9 = .ok (.putfield 13, 3) := by decide +kernel
theorem dX7_init_12 : decode cX7_init 12 = .ok (.iconst 0, 1) := by decide +kernel
theorem dX7_init_13 : decode cX7_init 13 = .ok (.istore_n 1, 1) := by decide +kernel
theorem dX7_init_14 : decode cX7_init 14 = .ok (.iload_n 1, 1) := by decide +kernel
theorem dX7_init_15 : decode cX7_init 15 = .ok (.aload_n 0, 1) := by decide +kernel
theorem dX7_init_16 : decode cX7_init 16 = .ok (.getfield 13, 3) := by decide +kernel
theorem dX7_init_19 : decode cX7_init 19 = .ok (.arraylength, 1) := by decide +kernel
theorem dX7_init_20 : decode cX7_init 20 = .ok (.if_icmp .ge 22, 3) := by decide +kernel
theorem dX7_init_23 : decode cX7_init 23 = .ok (.aload_n 0, 1) := by decide +kernel
theorem dX7_init_24 : decode cX7_init 24 = .ok (.getfield 13, 3) := by decide +kernel
theorem dX7_init_27 : decode cX7_init 27 = .ok (.iload_n 1, 1) := by decide +kernel
theorem dX7_init_28 : decode cX7_init 28 = .ok (.new 11, 3) := by decide +kernel
theorem dX7_init_31 : decode cX7_init 31 = .ok (.dup, 1) := by decide +kernel
theorem dX7_init_32 : decode cX7_init 32 = .ok (.invokespecial 17, 3) := by decide +kernel
theorem dX7_init_35 : decode cX7_init 35 = .ok (.aastore, 1) := by decide +kernel
theorem dX7_init_36 : decode cX7_init 36 = .ok (.iinc 1 1, 3) := by decide +kernel
theorem dX7_init_39 : decode cX7_init 39 = .ok (.goto (-25), 3) := by decide +kernel
theorem dX7_init_42 : decode cX7_init 42 = .ok (.aload_n 0, 1) := by decide +kernel
theorem dX7_init_43 : decode cX7_init 43 = .ok (.new 18, 3) := by decide +kernel
theorem dX7_init_46 : decode cX7_init 46 = .ok (.dup, 1) := by decide +kernel
theorem dX7_init_47 : decode cX7_init 47 = .ok (.invokespecial 20, 3) := by decide +kernel
theorem dX7_init_50 : decode cX7_init 50 = .ok (.putfield 21, 3) := by decide +kernel
theorem dX7_init_53 : decode cX7_init 53 = .ok (.aload_n 0, 1) := by decide +kernel
theorem dX7_init_54 : decode cX7_init 54 = .ok (.new 18, 3) := by decide +kernel
theorem dX7_init_57 : decode cX7_init 57 = .ok (.dup, 1) := by decide +kernel
theorem dX7_init_58 : decode cX7_init 58 = .ok (.invokespecial 20, 3) := by decide +kernel
theorem dX7_init_61 : decode cX7_init 61 = .ok (.putfield 25, 3) := by decide +kernel
theorem dX7_init_64 : decode cX7_init 64 = .ok (.aload_n 0, 1) := by decide +kernel
theorem dX7_init_65 : decode cX7_init 65 = .ok (.new 28, 3) := by decide +kernel
theorem dX7_init_68 : decode cX7_init 68 = .ok (.dup, 1) := by decide +kernel
theorem dX7_init_69 : decode cX7_init 69 = .ok (.invokespecial 30, 3) := by decide +kernel
theorem dX7_init_72 : decode cX7_init 72 = .ok (.putfield 31, 3) := by decide +kernel
theorem dX7_init_75 : decode cX7_init 75 = .ok (.aload_n 0, 1) := by decide +kernel
theorem dX7_init_76 : decode cX7_init 76 = .ok (.new 35, 3) := by decide +kernel
theorem dX7_init_79 : decode cX7_init 79 = .ok (.dup, 1) := by decide +kernel
theorem dX7_init_80 : decode cX7_init 80 = .ok (.invokespecial 37, 3) := by decide +kernel
theorem dX7_init_83 : decode cX7_init 83 = .ok (.putfield 38, 3) := by decide +kernel
theorem dX7_init_86 : decode cX7_init 86 = .ok (.aload_n 0, 1) := by decide +kernel
theorem dX7_init_87 : decode cX7_init 87 = .ok (.new 42, 3) := by decide +kernel
theorem dX7_init_90 : decode cX7_init 90 = .ok (.dup, 1) := by decide +kernel
theorem dX7_init_91 : decode cX7_init 91 = .ok (.invokespecial 44, 3) := by decide +kernel
theorem dX7_init_94 : decode cX7_init 94 = .ok (.putfield 45, 3) := by decide +kernel
theorem dX7_init_97 : decode cX7_init 97 = .ok (.aload_n 0, 1) := by decide +kernel
theorem dX7_init_98 : decode cX7_init 98 = .ok (.new 49, 3) := by decide +kernel
theorem dX7_init_101 : decode cX7_init 101 = .ok (.dup, 1) := by decide +kernel
theorem dX7_init_102 : decode cX7_init 102 = .ok (.invokespecial 51, 3) := by decide +kernel
theorem dX7_init_105 : decode cX7_init 105 = .ok (.putfield 52, 3) := by decide +kernel
theorem dX7_init_108 : decode cX7_init 108 = .ok (.return_, 1) := by decide +kernel
theorem dX7_ring_0 : decode cX7_ring 0 = .ok (.aload_n 0, 1) := by decide +kernel
theorem dX7_ring_1 : decode cX7_ring 1 = .ok (.iconst 0, 1) := by decide +kernel
theorem dX7_ring_2 : decode cX7_ring 2 = .ok (.putfield 56, 3) := by decide +kernel
theorem dX7_ring_5 : decode cX7_ring 5 = .ok (.iload_n 1, 1) := by decide +kernel
theorem dX7_ring_6 : decode cX7_ring 6 = .ok (.invokestatic 60, 3) := by decide +kernel
theorem dX7_ring_9 : decode cX7_ring 9 = .ok (.ifCond .ne 5, 3) := by decide +kernel
theorem dX7_ring_12 : decode cX7_ring 12 = .ok (.iconst (-1), 1) := by decide +kernel
theorem dX7_ring_13 : decode cX7_ring 13 = .ok (.ireturn, 1) := by decide +kernel
theorem dX7_ring_14 : decode cX7_ring 14 = .ok (.iload_n 2, 1) := by decide +kernel
theorem dX7_ring_15 : decode cX7_ring 15 = .ok (.invokestatic 64, 3) := by decide +kernel
theorem dX7_ring_18 : decode cX7_ring 18 = .ok (.ifCond .ne 6, 3) := by decide +kernel
theorem dX7_ring_21 : decode cX7_ring 21 = .ok (.bipush (-2), 2) := by decide +kernel
theorem dX7_ring_23 : decode cX7_ring 23 = .ok (.ireturn, 1) := by decide +kernel
theorem dX7_ring_24 : decode cX7_ring 24 = .ok (.aload_n 0, 1) := by decide +kernel
theorem dX7_ring_25 : decode cX7_ring 25 = .ok (.getfield 13, 3) := by decide +kernel
theorem dX7_ring_28 : decode cX7_ring 28 = .ok (.iload_n 1, 1) := by decide +kernel
theorem dX7_ring_29 : decode cX7_ring 29 = .ok (.aaload, 1) := by decide +kernel
theorem dX7_ring_30 : decode cX7_ring 30 = .ok (.astore 5, 2) := by decide +kernel
theorem dX7_ring_32 : decode cX7_ring 32 = .ok (.aload_n 0, 1) := by decide +kernel
theorem dX7_ring_33 : decode cX7_ring 33 = .ok (.aload 5, 2) := by decide +kernel
theorem dX7_ring_35 : decode cX7_ring 35 = .ok (.iload_n 2, 1) := by decide +kernel
theorem dX7_ring_36 : decode cX7_ring 36 = .ok (.iload_n 3, 1) := by decide +kernel
theorem dX7_ring_37 : decode cX7_ring 37 = .ok (.iload 4, 2) := by decide +kernel
theorem dX7_ring_39 : decode cX7_ring 39 = .ok (.invokevirtual 67, 3) := by decide +kernel
theorem dX7_ring_42 : decode cX7_ring 42 = .ok (.putfield 56, 3) := by decide +kernel
theorem dX7_ring_45 : decode cX7_ring 45 = .ok (.aload_n 0, 1) := by decide +kernel
theorem dX7_ring_46 : decode cX7_ring 46 = .ok (.getfield 56, 3) := by decide +kernel
theorem dX7_ring_49 : decode cX7_ring 49 = .ok (.ifCond .eq 8, 3) := by decide +kernel
theorem dX7_ring_52 : decode cX7_ring 52 = .ok (.aload_n 0, 1) := by decide +kernel
theorem dX7_ring_53 : decode cX7_ring 53 = .ok (.invokevirtual 71, 3) := by decide +kernel
theorem dX7_ring_56 : decode cX7_ring 56 = .ok (.ireturn, 1) := by decide +kernel
theorem dX7_ring_57 : decode cX7_ring 57 = .ok (.aload 5, 2) := by decide +kernel
theorem dX7_ring_59 : decode cX7_ring 59 = .ok (.iload_n 3, 1) := by decide +kernel
theorem dX7_ring_60 : decode cX7_ring 60 = .ok (.iload 4, 2) := by decide +kernel
theorem dX7_ring_62 : decode cX7_ring 62 = .ok (.invokestatic 75, 3) := by decide +kernel
theorem dX7_ring_65 : decode cX7_ring 65 = .ok (.istore 6, 2) := by decide +kernel
theorem dX7_ring_67 : decode cX7_ring 67 = .ok (.iload 6, 2) := by decide +kernel
theorem dX7_ring_69 : decode cX7_ring 69 = .ok (.bipush (-9), 2) := by decide +kernel
theorem dX7_ring_71 : decode cX7_ring 71 = .ok (.if_icmp .eq 9, 3) := by decide +kernel
theorem dX7_ring_74 : decode cX7_ring 74 = .ok (.bipush (-100), 2) := by decide +kernel
theorem dX7_ring_76 : decode cX7_ring 76 = .ok (.iload 6, 2) := by decide +kernel
theorem dX7_ring_78 : decode cX7_ring 78 = .ok (.isub, 1) := by decide +kernel
theorem dX7_ring_79 : decode cX7_ring 79 = .ok (.ireturn, 1) := by decide +kernel
theorem dX7_ring_80 : decode cX7_ring 80 = .ok (.aload 5, 2) := by decide +kernel
theorem dX7_ring_82 : decode cX7_ring 82 = .ok (.iload_n 3, 1) := by decide +kernel
theorem dX7_ring_83 : decode cX7_ring 83 = .ok (.iload 4, 2) := by decide +kernel
theorem dX7_ring_85 : decode cX7_ring 85 = .ok (.aload_n 0, 1) := by decide +kernel
theorem dX7_ring_86 : decode cX7_ring 86 = .ok (.getfield 21, 3) := by decide +kernel
theorem dX7_ring_89 : decode cX7_ring 89 = .ok (.invokestatic 81, 3) := by decide +kernel
theorem dX7_ring_92 : decode cX7_ring 92 = .ok (.aload_n 0, 1) := by decide +kernel
theorem dX7_ring_93 : decode cX7_ring 93 = .ok (.iconst 0, 1) := by decide +kernel
theorem dX7_ring_94 : decode cX7_ring 94 = .ok (.putfield 85, 3) := by decide +kernel
theorem dX7_ring_97 : decode cX7_ring 97 = .ok (.aload_n 0, 1) := by decide +kernel
theorem dX7_ring_98 : decode cX7_ring 98 = .ok (.getfield 45, 3) := by decide +kernel
theorem dX7_ring_101 : decode cX7_ring 101 = .ok (.iconst 0, 1) := by decide +kernel
theorem dX7_ring_102 : decode cX7_ring 102 = .ok (.putfield 88, 3) := by decide +kernel
theorem dX7_ring_105 : decode cX7_ring 105 = .ok (.aload_n 0, 1) := by decide +kernel
theorem dX7_ring_106 : decode cX7_ring 106 = .ok (.getfield 31, 3) := by decide +kernel
theorem dX7_ring_109 : decode cX7_ring 109 = .ok (.invokevirtual 91, 3) := by decide +kernel
theorem dX7_ring_112 : decode cX7_ring 112 = .ok (.aload_n 0, 1) := by decide +kernel
theorem dX7_ring_113 : decode cX7_ring 113 = .ok (.getfield 38, 3) := by decide +kernel
theorem dX7_ring_116 : decode cX7_ring 116 = .ok (.invokevirtual 94, 3) := by decide +kernel
theorem dX7_ring_119 : decode cX7_ring 119 = .ok (.aload_n 0, 1) := by decide +kernel
theorem dX7_ring_120 : decode cX7_ring 120 = .ok (.getfield 21, 3) := by decide +kernel
theorem dX7_ring_123 : decode cX7_ring 123 = .ok (.getfield 95, 3) := by decide +kernel
theorem dX7_ring_126 : decode cX7_ring 126 = .ok (.ireturn, 1) := by decide +kernel
theorem dX7_ofPlace_0 : decode cX7_ofPlace 0 = .ok (.aload_n 0, 1) := by decide +kernel
theorem dX7_ofPlace_1 : decode cX7_ofPlace 1 = .ok (.getfield 21, 3) := by decide +kernel
theorem dX7_ofPlace_4 : decode cX7_ofPlace 4 = .ok (.iload_n 1, 1) := by decide +kernel
theorem dX7_ofPlace_5 : decode cX7_ofPlace 5 = .ok (.invokevirtual 98, 3) := by decide +kernel
theorem dX7_ofPlace_8 : decode cX7_ofPlace 8 = .ok (.ifCond .ne 5, 3) := by decide +kernel
theorem dX7_ofPlace_11 : decode cX7_ofPlace 11 = .ok (.iconst (-1), 1) := by decide +kernel
theorem dX7_ofPlace_12 : decode cX7_ofPlace 12 = .ok (.ireturn, 1) := by decide +kernel
theorem dX7_ofPlace_13 : decode cX7_ofPlace 13 = .ok (.iload_n 2, 1) := by decide +kernel
theorem dX7_ofPlace_14 : decode cX7_ofPlace 14 = .ok (.tableswitch 55 0 2 #[26, 36, 46], 26) := by decide +kernel
theorem dX7_ofPlace_40 : decode cX7_ofPlace 40 = .ok (.aload_n 0, 1) := by decide +kernel
theorem dX7_ofPlace_41 : decode cX7_ofPlace 41 = .ok (.getfield 21, 3) := by decide +kernel
theorem dX7_ofPlace_44 : decode cX7_ofPlace 44 = .ok (.getfield 101, 3) := by decide +kernel
theorem dX7_ofPlace_47 : decode cX7_ofPlace 47 = .ok (.iload_n 1, 1) := by decide +kernel
theorem dX7_ofPlace_48 : decode cX7_ofPlace 48 = .ok (.iaload, 1) := by decide +kernel
theorem dX7_ofPlace_49 : decode cX7_ofPlace 49 = .ok (.ireturn, 1) := by decide +kernel
theorem dX7_ofPlace_50 : decode cX7_ofPlace 50 = .ok (.aload_n 0, 1) := by decide +kernel
theorem dX7_ofPlace_51 : decode cX7_ofPlace 51 = .ok (.getfield 21, 3) := by decide +kernel
theorem dX7_ofPlace_54 : decode cX7_ofPlace 54 = .ok (.getfield 105, 3) := by decide +kernel
theorem dX7_ofPlace_57 : decode cX7_ofPlace 57 = .ok (.iload_n 1, 1) := by decide +kernel
theorem dX7_ofPlace_58 : decode cX7_ofPlace 58 = .ok (.iaload, 1) := by decide +kernel
theorem dX7_ofPlace_59 : decode cX7_ofPlace 59 = .ok (.ireturn, 1) := by decide +kernel
theorem dX7_ofPlace_60 : decode cX7_ofPlace 60 = .ok (.aload_n 0, 1) := by decide +kernel
theorem dX7_ofPlace_61 : decode cX7_ofPlace 61 = .ok (.getfield 21, 3) := by decide +kernel
theorem dX7_ofPlace_64 : decode cX7_ofPlace 64 = .ok (.iload_n 1, 1) := by decide +kernel
theorem dX7_ofPlace_65 : decode cX7_ofPlace 65 = .ok (.invokevirtual 108, 3) := by decide +kernel
theorem dX7_ofPlace_68 : decode cX7_ofPlace 68 = .ok (.ireturn, 1) := by decide +kernel
theorem dX7_ofPlace_69 : decode cX7_ofPlace 69 = .ok (.bipush (-2), 2) := by decide +kernel
theorem dX7_ofPlace_71 : decode cX7_ofPlace 71 = .ok (.ireturn, 1) := by decide +kernel
theorem dX7_write_0 : decode cX7_write 0 = .ok (.aload_n 0, 1) := by decide +kernel
theorem dX7_write_1 : decode cX7_write 1 = .ok (.getfield 21, 3) := by decide +kernel
theorem dX7_write_4 : decode cX7_write 4 = .ok (.iload_n 1, 1) := by decide +kernel
theorem dX7_write_5 : decode cX7_write 5 = .ok (.invokevirtual 98, 3) := by decide +kernel
theorem dX7_write_8 : decode cX7_write 8 = .ok (.ifCond .ne 5, 3) := by decide +kernel
theorem dX7_write_11 : decode cX7_write 11 = .ok (.iconst (-1), 1) := by decide +kernel
theorem dX7_write_12 : decode cX7_write 12 = .ok (.ireturn, 1) := by decide +kernel
theorem dX7_write_13 : decode cX7_write 13 = .ok (.aload_n 0, 1) := by decide +kernel
theorem dX7_write_14 : decode cX7_write 14 = .ok (.getfield 21, 3) := by decide +kernel
theorem dX7_write_17 : decode cX7_write 17 = .ok (.iload_n 2, 1) := by decide +kernel
theorem dX7_write_18 : decode cX7_write 18 = .ok (.invokevirtual 112, 3) := by decide +kernel
theorem dX7_write_21 : decode cX7_write 21 = .ok (.ifCond .ne 6, 3) := by decide +kernel
theorem dX7_write_24 : decode cX7_write 24 = .ok (.bipush (-2), 2) := by decide +kernel
theorem dX7_write_26 : decode cX7_write 26 = .ok (.ireturn, 1) := by decide +kernel
theorem dX7_write_27 : decode cX7_write 27 = .ok (.aload_n 0, 1) := by decide +kernel
theorem dX7_write_28 : decode cX7_write 28 = .ok (.getfield 21, 3) := by decide +kernel
theorem dX7_write_31 : decode cX7_write 31 = .ok (.getfield 105, 3) := by decide +kernel
theorem dX7_write_34 : decode cX7_write 34 = .ok (.iload_n 1, 1) := by decide +kernel
theorem dX7_write_35 : decode cX7_write 35 = .ok (.iaload, 1) := by decide +kernel
theorem dX7_write_36 : decode cX7_write 36 = .ok (.istore_n 3, 1) := by decide +kernel
theorem dX7_write_37 : decode cX7_write 37 = .ok (.aload_n 0, 1) := by decide +kernel
theorem dX7_write_38 : decode cX7_write 38 = .ok (.getfield 21, 3) := by decide +kernel
theorem dX7_write_41 : decode cX7_write 41 = .ok (.getfield 105, 3) := by decide +kernel
theorem dX7_write_44 : decode cX7_write 44 = .ok (.iload_n 1, 1) := by decide +kernel
theorem dX7_write_45 : decode cX7_write 45 = .ok (.iload_n 2, 1) := by decide +kernel
theorem dX7_write_46 : decode cX7_write 46 = .ok (.iastore, 1) := by decide +kernel
theorem dX7_write_47 : decode cX7_write 47 = .ok (.iload_n 3, 1) := by decide +kernel
theorem dX7_write_48 : decode cX7_write 48 = .ok (.ireturn, 1) := by decide +kernel
theorem dX7_steps_0 : decode cX7_steps 0 = .ok (.iload_n 1, 1) := by decide +kernel
theorem dX7_steps_1 : decode cX7_steps 1 = .ok (.iconst 1, 1) := by decide +kernel
theorem dX7_steps_2 : decode cX7_steps 2 = .ok (.if_icmp .lt 9, 3) := by decide +kernel
theorem dX7_steps_5 : decode cX7_steps 5 = .ok (.iload_n 1, 1) := by decide +kernel
theorem dX7_steps_6 : decode cX7_steps 6 = .ok (.bipush 99, 2) := by decide +kernel
theorem dX7_steps_8 : decode cX7_steps 8 = .ok (.if_icmp .le 6, 3) := by decide +kernel
theorem dX7_steps_11 : decode cX7_steps 11 = .ok (.bipush (-2), 2) := by decide +kernel
theorem dX7_steps_13 : decode cX7_steps 13 = .ok (.ireturn, 1) := by decide +kernel
theorem dX7_steps_14 : decode cX7_steps 14 = .ok (.aload_n 0, 1) := by decide +kernel
theorem dX7_steps_15 : decode cX7_steps 15 = .ok (.getfield 21, 3) := by decide +kernel
theorem dX7_steps_18 : decode cX7_steps 18 = .ok (.invokevirtual 115, 3) := by decide +kernel
theorem dX7_steps_21 : decode cX7_steps 21 = .ok (.ifCond .eq 6, 3) := by decide +kernel
theorem dX7_steps_24 : decode cX7_steps 24 = .ok (.bipush (-3), 2) := by decide +kernel
theorem dX7_steps_26 : decode cX7_steps 26 = .ok (.ireturn, 1) := by decide +kernel
theorem dX7_steps_27 : decode cX7_steps 27 = .ok (.aload_n 0, 1) := by decide +kernel
theorem dX7_steps_28 : decode cX7_steps 28 = .ok (.getfield 21, 3) := by decide +kernel
theorem dX7_steps_31 : decode cX7_steps 31 = .ok (.iload_n 1, 1) := by decide +kernel
theorem dX7_steps_32 : decode cX7_steps 32 = .ok (.invokevirtual 119, 3) := by decide +kernel
theorem dX7_steps_35 : decode cX7_steps 35 = .ok (.aload_n 0, 1) := by decide +kernel
theorem dX7_steps_36 : decode cX7_steps 36 = .ok (.dup, 1) := by decide +kernel
theorem dX7_steps_37 : decode cX7_steps 37 = .ok (.getfield 85, 3) := by decide +kernel
theorem dX7_steps_40 : decode cX7_steps 40 = .ok (.iload_n 1, 1) := by decide +kernel
theorem dX7_steps_41 : decode cX7_steps 41 = .ok (.iadd, 1) := by decide +kernel
theorem dX7_steps_42 : decode cX7_steps 42 = .ok (.putfield 85, 3) := by decide +kernel
theorem dX7_steps_45 : decode cX7_steps 45 = .ok (.aload_n 0, 1) := by decide +kernel
theorem dX7_steps_46 : decode cX7_steps 46 = .ok (.getfield 21, 3) := by decide +kernel
theorem dX7_steps_49 : decode cX7_steps 49 = .ok (.invokevirtual 123, 3) := by decide +kernel
theorem dX7_steps_52 : decode cX7_steps 52 = .ok (.ireturn, 1) := by decide +kernel
theorem dX7_after_0 : decode cX7_after 0 = .ok (.aload_n 0, 1) := by decide +kernel
theorem dX7_after_1 : decode cX7_after 1 = .ok (.getfield 21, 3) := by decide +kernel
theorem dX7_after_4 : decode cX7_after 4 = .ok (.iload_n 1, 1) := by decide +kernel
theorem dX7_after_5 : decode cX7_after 5 = .ok (.invokevirtual 98, 3) := by decide +kernel
theorem dX7_after_8 : decode cX7_after 8 = .ok (.ifCond .ne 5, 3) := by decide +kernel
theorem dX7_after_11 : decode cX7_after 11 = .ok (.iconst (-1), 1) := by decide +kernel
theorem dX7_after_12 : decode cX7_after 12 = .ok (.ireturn, 1) := by decide +kernel
theorem dX7_after_13 : decode cX7_after 13 = .ok (.lload_n 2, 1) := by decide +kernel
theorem dX7_after_14 : decode cX7_after 14 = .ok (.lconst 0, 1) := by decide +kernel
theorem dX7_after_15 : decode cX7_after 15 = .ok (.lcmp, 1) := by decide +kernel
theorem dX7_after_16 : decode cX7_after 16 = .ok (.ifCond .lt 11, 3) := by decide +kernel
theorem dX7_after_19 : decode cX7_after 19 = .ok (.lload_n 2, 1) := by decide +kernel
theorem dX7_after_20 : decode cX7_after 20 = .ok (.ldc2_w 126, 3) := by decide +kernel
theorem dX7_after_23 : decode cX7_after 23 = .ok (.lcmp, 1) := by decide +kernel
theorem dX7_after_24 : decode cX7_after 24 = .ok (.ifCond .le 6, 3) := by decide +kernel
theorem dX7_after_27 : decode cX7_after 27 = .ok (.bipush (-2), 2) := by decide +kernel
theorem dX7_after_29 : decode cX7_after 29 = .ok (.ireturn, 1) := by decide +kernel
theorem dX7_after_30 : decode cX7_after 30 = .ok (.aload_n 0, 1) := by decide +kernel
theorem dX7_after_31 : decode cX7_after 31 = .ok (.getfield 31, 3) := by decide +kernel
theorem dX7_after_34 : decode cX7_after 34 = .ok (.aload_n 0, 1) := by decide +kernel
theorem dX7_after_35 : decode cX7_after 35 = .ok (.getfield 21, 3) := by decide +kernel
theorem dX7_after_38 : decode cX7_after 38 = .ok (.invokevirtual 128, 3) := by decide +kernel
theorem dX7_after_41 : decode cX7_after 41 = .ok (.aload_n 0, 1) := by decide +kernel
theorem dX7_after_42 : decode cX7_after 42 = .ok (.getfield 31, 3) := by decide +kernel
theorem dX7_after_45 : decode cX7_after 45 = .ok (.aload_n 0, 1) := by decide +kernel
theorem dX7_after_46 : decode cX7_after 46 = .ok (.getfield 31, 3) := by decide +kernel
theorem dX7_after_49 : decode cX7_after 49 = .ok (.aload_n 0, 1) := by decide +kernel
theorem dX7_after_50 : decode cX7_after 50 = .ok (.getfield 21, 3) := by decide +kernel
theorem dX7_after_53 : decode cX7_after 53 = .ok (.invokevirtual 132, 3) := by decide +kernel
theorem dX7_after_56 : decode cX7_after 56 = .ok (.lload_n 2, 1) := by decide +kernel
theorem dX7_after_57 : decode cX7_after 57 = .ok (.invokevirtual 135, 3) := by decide +kernel
theorem dX7_after_60 : decode cX7_after 60 = .ok (.iload_n 1, 1) := by decide +kernel
theorem dX7_after_61 : decode cX7_after 61 = .ok (.invokevirtual 139, 3) := by decide +kernel
theorem dX7_after_64 : decode cX7_after 64 = .ok (.ireturn, 1) := by decide +kernel
theorem dX7_day_0 : decode cX7_day 0 = .ok (.aload_n 0, 1) := by decide +kernel
theorem dX7_day_1 : decode cX7_day 1 = .ok (.iconst 0, 1) := by decide +kernel
theorem dX7_day_2 : decode cX7_day 2 = .ok (.putfield 56, 3) := by decide +kernel
theorem dX7_day_5 : decode cX7_day 5 = .ok (.iload_n 1, 1) := by decide +kernel
theorem dX7_day_6 : decode cX7_day 6 = .ok (.invokestatic 60, 3) := by decide +kernel
theorem dX7_day_9 : decode cX7_day 9 = .ok (.ifCond .ne 5, 3) := by decide +kernel
theorem dX7_day_12 : decode cX7_day 12 = .ok (.iconst (-1), 1) := by decide +kernel
theorem dX7_day_13 : decode cX7_day 13 = .ok (.ireturn, 1) := by decide +kernel
theorem dX7_day_14 : decode cX7_day 14 = .ok (.iload_n 2, 1) := by decide +kernel
theorem dX7_day_15 : decode cX7_day 15 = .ok (.invokestatic 64, 3) := by decide +kernel
theorem dX7_day_18 : decode cX7_day 18 = .ok (.ifCond .eq 23, 3) := by decide +kernel
theorem dX7_day_21 : decode cX7_day 21 = .ok (.iload 4, 2) := by decide +kernel
theorem dX7_day_23 : decode cX7_day 23 = .ok (.ifCond .lt 18, 3) := by decide +kernel
theorem dX7_day_26 : decode cX7_day 26 = .ok (.iload 4, 2) := by decide +kernel
theorem dX7_day_28 : decode cX7_day 28 = .ok (.bipush 20, 2) := by decide +kernel
theorem dX7_day_30 : decode cX7_day 30 = .ok (.if_icmp .gt 11, 3) := by decide +kernel
theorem dX7_day_33 : decode cX7_day 33 = .ok (.iload 5, 2) := by decide +kernel
theorem dX7_day_35 : decode cX7_day 35 = .ok (.invokestatic 143, 3) := by decide +kernel
theorem dX7_day_38 : decode cX7_day 38 = .ok (.ifCond .ne 6, 3) := by decide +kernel
theorem dX7_day_41 : decode cX7_day 41 = .ok (.bipush (-2), 2) := by decide +kernel
theorem dX7_day_43 : decode cX7_day 43 = .ok (.ireturn, 1) := by decide +kernel
theorem dX7_day_44 : decode cX7_day 44 = .ok (.aload_n 0, 1) := by decide +kernel
theorem dX7_day_45 : decode cX7_day 45 = .ok (.getfield 21, 3) := by decide +kernel
theorem dX7_day_48 : decode cX7_day 48 = .ok (.invokevirtual 115, 3) := by decide +kernel
theorem dX7_day_51 : decode cX7_day 51 = .ok (.ifCond .eq 6, 3) := by decide +kernel
theorem dX7_day_54 : decode cX7_day 54 = .ok (.bipush (-3), 2) := by decide +kernel
theorem dX7_day_56 : decode cX7_day 56 = .ok (.ireturn, 1) := by decide +kernel
theorem dX7_day_57 : decode cX7_day 57 = .ok (.aload_n 0, 1) := by decide +kernel
theorem dX7_day_58 : decode cX7_day 58 = .ok (.getfield 13, 3) := by decide +kernel
theorem dX7_day_61 : decode cX7_day 61 = .ok (.iload_n 1, 1) := by decide +kernel
theorem dX7_day_62 : decode cX7_day 62 = .ok (.aaload, 1) := by decide +kernel
theorem dX7_day_63 : decode cX7_day 63 = .ok (.astore 6, 2) := by decide +kernel
theorem dX7_day_65 : decode cX7_day 65 = .ok (.aload_n 0, 1) := by decide +kernel
theorem dX7_day_66 : decode cX7_day 66 = .ok (.aload 6, 2) := by decide +kernel
theorem dX7_day_68 : decode cX7_day 68 = .ok (.iload_n 2, 1) := by decide +kernel
theorem dX7_day_69 : decode cX7_day 69 = .ok (.iload_n 3, 1) := by decide +kernel
theorem dX7_day_70 : decode cX7_day 70 = .ok (.iconst 2, 1) := by decide +kernel
theorem dX7_day_71 : decode cX7_day 71 = .ok (.iload 4, 2) := by decide +kernel
theorem dX7_day_73 : decode cX7_day 73 = .ok (.imul, 1) := by decide +kernel
theorem dX7_day_74 : decode cX7_day 74 = .ok (.invokevirtual 67, 3) := by decide +kernel
theorem dX7_day_77 : decode cX7_day 77 = .ok (.putfield 56, 3) := by decide +kernel
theorem dX7_day_80 : decode cX7_day 80 = .ok (.aload_n 0, 1) := by decide +kernel
theorem dX7_day_81 : decode cX7_day 81 = .ok (.getfield 56, 3) := by decide +kernel
theorem dX7_day_84 : decode cX7_day 84 = .ok (.ifCond .eq 8, 3) := by decide +kernel
theorem dX7_day_87 : decode cX7_day 87 = .ok (.aload_n 0, 1) := by decide +kernel
theorem dX7_day_88 : decode cX7_day 88 = .ok (.invokevirtual 71, 3) := by decide +kernel
theorem dX7_day_91 : decode cX7_day 91 = .ok (.ireturn, 1) := by decide +kernel
theorem dX7_day_92 : decode cX7_day 92 = .ok (.aload 6, 2) := by decide +kernel
theorem dX7_day_94 : decode cX7_day 94 = .ok (.iload_n 3, 1) := by decide +kernel
theorem dX7_day_95 : decode cX7_day 95 = .ok (.iload 4, 2) := by decide +kernel
theorem dX7_day_97 : decode cX7_day 97 = .ok (.invokestatic 146, 3) := by decide +kernel
theorem dX7_day_100 : decode cX7_day 100 = .ok (.ifCond .ne 6, 3) := by decide +kernel
theorem dX7_day_103 : decode cX7_day 103 = .ok (.bipush (-2), 2) := by decide +kernel
theorem dX7_day_105 : decode cX7_day 105 = .ok (.ireturn, 1) := by decide +kernel
theorem dX7_day_106 : decode cX7_day 106 = .ok (.aload_n 0, 1) := by decide +kernel
theorem dX7_day_107 : decode cX7_day 107 = .ok (.getfield 25, 3) := by decide +kernel
theorem dX7_day_110 : decode cX7_day 110 = .ok (.aload_n 0, 1) := by decide +kernel
theorem dX7_day_111 : decode cX7_day 111 = .ok (.getfield 21, 3) := by decide +kernel
theorem dX7_day_114 : decode cX7_day 114 = .ok (.invokevirtual 150, 3) := by decide +kernel
theorem dX7_day_117 : decode cX7_day 117 = .ok (.aload_n 0, 1) := by decide +kernel
theorem dX7_day_118 : decode cX7_day 118 = .ok (.getfield 52, 3) := by decide +kernel
theorem dX7_day_121 : decode cX7_day 121 = .ok (.aload_n 0, 1) := by decide +kernel
theorem dX7_day_122 : decode cX7_day 122 = .ok (.getfield 25, 3) := by decide +kernel
theorem dX7_day_125 : decode cX7_day 125 = .ok (.aload 6, 2) := by decide +kernel
theorem dX7_day_127 : decode cX7_day 127 = .ok (.iload_n 3, 1) := by decide +kernel
theorem dX7_day_128 : decode cX7_day 128 = .ok (.iload 4, 2) := by decide +kernel
theorem dX7_day_130 : decode cX7_day 130 = .ok (.invokevirtual 153, 3) := by decide +kernel
theorem dX7_day_133 : decode cX7_day 133 = .ok (.aload_n 0, 1) := by decide +kernel
theorem dX7_day_134 : decode cX7_day 134 = .ok (.iload 5, 2) := by decide +kernel
theorem dX7_day_136 : decode cX7_day 136 = .ok (.invokevirtual 157, 3) := by decide +kernel
theorem dX7_day_139 : decode cX7_day 139 = .ok (.ireturn, 1) := by decide +kernel
theorem dX7_ofDay_0 : decode cX7_ofDay 0 = .ok (.iload_n 1, 1) := by decide +kernel
theorem dX7_ofDay_1 : decode cX7_ofDay 1 = .ok (.iconst 1, 1) := by decide +kernel
theorem dX7_ofDay_2 : decode cX7_ofDay 2 = .ok (.if_icmp .ne 11, 3) := by decide +kernel
theorem dX7_ofDay_5 : decode cX7_ofDay 5 = .ok (.aload_n 0, 1) := by decide +kernel
theorem dX7_ofDay_6 : decode cX7_ofDay 6 = .ok (.getfield 52, 3) := by decide +kernel
theorem dX7_ofDay_9 : decode cX7_ofDay 9 = .ok (.getfield 160, 3) := by decide +kernel
theorem dX7_ofDay_12 : decode cX7_ofDay 12 = .ok (.ireturn, 1) := by decide +kernel
theorem dX7_ofDay_13 : decode cX7_ofDay 13 = .ok (.aload_n 0, 1) := by decide +kernel
theorem dX7_ofDay_14 : decode cX7_ofDay 14 = .ok (.getfield 52, 3) := by decide +kernel
theorem dX7_ofDay_17 : decode cX7_ofDay 17 = .ok (.getfield 160, 3) := by decide +kernel
theorem dX7_ofDay_20 : decode cX7_ofDay 20 = .ok (.bipush (-9), 2) := by decide +kernel
theorem dX7_ofDay_22 : decode cX7_ofDay 22 = .ok (.if_icmp .eq 14, 3) := by decide +kernel
theorem dX7_ofDay_25 : decode cX7_ofDay 25 = .ok (.bipush (-100), 2) := by decide +kernel
theorem dX7_ofDay_27 : decode cX7_ofDay 27 = .ok (.aload_n 0, 1) := by decide +kernel
theorem dX7_ofDay_28 : decode cX7_ofDay 28 = .ok (.getfield 52, 3) := by decide +kernel
theorem dX7_ofDay_31 : decode cX7_ofDay 31 = .ok (.getfield 160, 3) := by decide +kernel
theorem dX7_ofDay_34 : decode cX7_ofDay 34 = .ok (.isub, 1) := by decide +kernel
theorem dX7_ofDay_35 : decode cX7_ofDay 35 = .ok (.ireturn, 1) := by decide +kernel
theorem dX7_ofDay_36 : decode cX7_ofDay 36 = .ok (.iload_n 1, 1) := by decide +kernel
theorem dX7_ofDay_37 : decode cX7_ofDay 37 = .ok (.tableswitch 85 0 4 #[35, 85, 43, 51, 59], 35) := by decide +kernel
theorem dX7_ofDay_72 : decode cX7_ofDay 72 = .ok (.aload_n 0, 1) := by decide +kernel
theorem dX7_ofDay_73 : decode cX7_ofDay 73 = .ok (.getfield 25, 3) := by decide +kernel
theorem dX7_ofDay_76 : decode cX7_ofDay 76 = .ok (.invokevirtual 163, 3) := by decide +kernel
theorem dX7_ofDay_79 : decode cX7_ofDay 79 = .ok (.ireturn, 1) := by decide +kernel
theorem dX7_ofDay_80 : decode cX7_ofDay 80 = .ok (.aload_n 0, 1) := by decide +kernel
theorem dX7_ofDay_81 : decode cX7_ofDay 81 = .ok (.getfield 52, 3) := by decide +kernel
theorem dX7_ofDay_84 : decode cX7_ofDay 84 = .ok (.getfield 166, 3) := by decide +kernel
theorem dX7_ofDay_87 : decode cX7_ofDay 87 = .ok (.ireturn, 1) := by decide +kernel
theorem dX7_ofDay_88 : decode cX7_ofDay 88 = .ok (.aload_n 0, 1) := by decide +kernel
theorem dX7_ofDay_89 : decode cX7_ofDay 89 = .ok (.getfield 52, 3) := by decide +kernel
theorem dX7_ofDay_92 : decode cX7_ofDay 92 = .ok (.getfield 169, 3) := by decide +kernel
theorem dX7_ofDay_95 : decode cX7_ofDay 95 = .ok (.ireturn, 1) := by decide +kernel
theorem dX7_ofDay_96 : decode cX7_ofDay 96 = .ok (.aload_n 0, 1) := by decide +kernel
theorem dX7_ofDay_97 : decode cX7_ofDay 97 = .ok (.getfield 31, 3) := by decide +kernel
theorem dX7_ofDay_100 : decode cX7_ofDay 100 = .ok (.aload_n 0, 1) := by decide +kernel
theorem dX7_ofDay_101 : decode cX7_ofDay 101 = .ok (.getfield 21, 3) := by decide +kernel
theorem dX7_ofDay_104 : decode cX7_ofDay 104 = .ok (.invokevirtual 128, 3) := by decide +kernel
theorem dX7_ofDay_107 : decode cX7_ofDay 107 = .ok (.aload_n 0, 1) := by decide +kernel
theorem dX7_ofDay_108 : decode cX7_ofDay 108 = .ok (.getfield 31, 3) := by decide +kernel
theorem dX7_ofDay_111 : decode cX7_ofDay 111 = .ok (.aload_n 0, 1) := by decide +kernel
theorem dX7_ofDay_112 : decode cX7_ofDay 112 = .ok (.getfield 25, 3) := by decide +kernel
theorem dX7_ofDay_115 : decode cX7_ofDay 115 = .ok (.invokevirtual 132, 3) := by decide +kernel
theorem dX7_ofDay_118 : decode cX7_ofDay 118 = .ok (.invokevirtual 172, 3) := by decide +kernel
theorem dX7_ofDay_121 : decode cX7_ofDay 121 = .ok (.ireturn, 1) := by decide +kernel
theorem dX7_ofDay_122 : decode cX7_ofDay 122 = .ok (.iload_n 1, 1) := by decide +kernel
theorem dX7_ofDay_123 : decode cX7_ofDay 123 = .ok (.bipush 10, 2) := by decide +kernel
theorem dX7_ofDay_125 : decode cX7_ofDay 125 = .ok (.isub, 1) := by decide +kernel
theorem dX7_ofDay_126 : decode cX7_ofDay 126 = .ok (.istore_n 2, 1) := by decide +kernel
theorem dX7_ofDay_127 : decode cX7_ofDay 127 = .ok (.aload_n 0, 1) := by decide +kernel
theorem dX7_ofDay_128 : decode cX7_ofDay 128 = .ok (.getfield 25, 3) := by decide +kernel
theorem dX7_ofDay_131 : decode cX7_ofDay 131 = .ok (.iload_n 2, 1) := by decide +kernel
theorem dX7_ofDay_132 : decode cX7_ofDay 132 = .ok (.invokevirtual 98, 3) := by decide +kernel
theorem dX7_ofDay_135 : decode cX7_ofDay 135 = .ok (.ifCond .eq 15, 3) := by decide +kernel
theorem dX7_ofDay_138 : decode cX7_ofDay 138 = .ok (.aload_n 0, 1) := by decide +kernel
theorem dX7_ofDay_139 : decode cX7_ofDay 139 = .ok (.getfield 25, 3) := by decide +kernel
theorem dX7_ofDay_142 : decode cX7_ofDay 142 = .ok (.getfield 105, 3) := by decide +kernel
theorem dX7_ofDay_145 : decode cX7_ofDay 145 = .ok (.iload_n 2, 1) := by decide +kernel
theorem dX7_ofDay_146 : decode cX7_ofDay 146 = .ok (.iaload, 1) := by decide +kernel
theorem dX7_ofDay_147 : decode cX7_ofDay 147 = .ok (.goto 5, 3) := by decide +kernel
theorem dX7_ofDay_150 : decode cX7_ofDay 150 = .ok (.bipush (-9), 2) := by decide +kernel
theorem dX7_ofDay_152 : decode cX7_ofDay 152 = .ok (.ireturn, 1) := by decide +kernel
theorem dX7_now_0 : decode cX7_now 0 = .ok (.iload_n 1, 1) := by decide +kernel
theorem dX7_now_1 : decode cX7_now 1 = .ok (.ifCond .lt 8, 3) := by decide +kernel
theorem dX7_now_4 : decode cX7_now 4 = .ok (.iload_n 1, 1) := by decide +kernel
theorem dX7_now_5 : decode cX7_now 5 = .ok (.iconst 2, 1) := by decide +kernel
theorem dX7_now_6 : decode cX7_now 6 = .ok (.if_icmp .le 6, 3) := by decide +kernel
theorem dX7_now_9 : decode cX7_now 9 = .ok (.bipush (-2), 2) := by decide +kernel
theorem dX7_now_11 : decode cX7_now 11 = .ok (.ireturn, 1) := by decide +kernel
theorem dX7_now_12 : decode cX7_now 12 = .ok (.aload_n 0, 1) := by decide +kernel
theorem dX7_now_13 : decode cX7_now 13 = .ok (.getfield 21, 3) := by decide +kernel
theorem dX7_now_16 : decode cX7_now 16 = .ok (.invokevirtual 115, 3) := by decide +kernel
theorem dX7_now_19 : decode cX7_now 19 = .ok (.ifCond .eq 6, 3) := by decide +kernel
theorem dX7_now_22 : decode cX7_now 22 = .ok (.bipush (-3), 2) := by decide +kernel
theorem dX7_now_24 : decode cX7_now 24 = .ok (.ireturn, 1) := by decide +kernel
theorem dX7_now_25 : decode cX7_now 25 = .ok (.aload_n 0, 1) := by decide +kernel
theorem dX7_now_26 : decode cX7_now 26 = .ok (.getfield 31, 3) := by decide +kernel
theorem dX7_now_29 : decode cX7_now 29 = .ok (.aload_n 0, 1) := by decide +kernel
theorem dX7_now_30 : decode cX7_now 30 = .ok (.getfield 21, 3) := by decide +kernel
theorem dX7_now_33 : decode cX7_now 33 = .ok (.invokevirtual 128, 3) := by decide +kernel
theorem dX7_now_36 : decode cX7_now 36 = .ok (.aload_n 0, 1) := by decide +kernel
theorem dX7_now_37 : decode cX7_now 37 = .ok (.getfield 21, 3) := by decide +kernel
theorem dX7_now_40 : decode cX7_now 40 = .ok (.invokevirtual 132, 3) := by decide +kernel
theorem dX7_now_43 : decode cX7_now 43 = .ok (.istore_n 2, 1) := by decide +kernel
theorem dX7_now_44 : decode cX7_now 44 = .ok (.iload_n 1, 1) := by decide +kernel
theorem dX7_now_45 : decode cX7_now 45 = .ok (.lookupswitch 45 #[(0, 27), (1, 36)], 27) := by decide +kernel
theorem dX7_now_72 : decode cX7_now 72 = .ok (.aload_n 0, 1) := by decide +kernel
theorem dX7_now_73 : decode cX7_now 73 = .ok (.getfield 31, 3) := by decide +kernel
theorem dX7_now_76 : decode cX7_now 76 = .ok (.iload_n 2, 1) := by decide +kernel
theorem dX7_now_77 : decode cX7_now 77 = .ok (.invokevirtual 172, 3) := by decide +kernel
theorem dX7_now_80 : decode cX7_now 80 = .ok (.ireturn, 1) := by decide +kernel
theorem dX7_now_81 : decode cX7_now 81 = .ok (.aload_n 0, 1) := by decide +kernel
theorem dX7_now_82 : decode cX7_now 82 = .ok (.getfield 31, 3) := by decide +kernel
theorem dX7_now_85 : decode cX7_now 85 = .ok (.iload_n 2, 1) := by decide +kernel
theorem dX7_now_86 : decode cX7_now 86 = .ok (.invokevirtual 175, 3) := by decide +kernel
theorem dX7_now_89 : decode cX7_now 89 = .ok (.ireturn, 1) := by decide +kernel
theorem dX7_now_90 : decode cX7_now 90 = .ok (.aload_n 0, 1) := by decide +kernel
theorem dX7_now_91 : decode cX7_now 91 = .ok (.getfield 31, 3) := by decide +kernel
theorem dX7_now_94 : decode cX7_now 94 = .ok (.iload_n 2, 1) := by decide +kernel
theorem dX7_now_95 : decode cX7_now 95 = .ok (.invokevirtual 178, 3) := by decide +kernel
theorem dX7_now_98 : decode cX7_now 98 = .ok (.ifCond .eq 7, 3) := by decide +kernel
theorem dX7_now_101 : decode cX7_now 101 = .ok (.iconst 1, 1) := by decide +kernel
theorem dX7_now_102 : decode cX7_now 102 = .ok (.goto 4, 3) := by decide +kernel
theorem dX7_now_105 : decode cX7_now 105 = .ok (.iconst 0, 1) := by decide +kernel
theorem dX7_now_106 : decode cX7_now 106 = .ok (.ireturn, 1) := by decide +kernel
theorem dX7_from_0 : decode cX7_from 0 = .ok (.iload_n 1, 1) := by decide +kernel
theorem dX7_from_1 : decode cX7_from 1 = .ok (.iconst (-1), 1) := by decide +kernel
theorem dX7_from_2 : decode cX7_from 2 = .ok (.if_icmp .lt 8, 3) := by decide +kernel
theorem dX7_from_5 : decode cX7_from 5 = .ok (.iload_n 1, 1) := by decide +kernel
theorem dX7_from_6 : decode cX7_from 6 = .ok (.iconst 5, 1) := by decide +kernel
theorem dX7_from_7 : decode cX7_from 7 = .ok (.if_icmp .lt 6, 3) := by decide +kernel
theorem dX7_from_10 : decode cX7_from 10 = .ok (.bipush (-2), 2) := by decide +kernel
theorem dX7_from_12 : decode cX7_from 12 = .ok (.ireturn, 1) := by decide +kernel
theorem dX7_from_13 : decode cX7_from 13 = .ok (.aload_n 0, 1) := by decide +kernel
theorem dX7_from_14 : decode cX7_from 14 = .ok (.getfield 21, 3) := by decide +kernel
theorem dX7_from_17 : decode cX7_from 17 = .ok (.invokevirtual 115, 3) := by decide +kernel
theorem dX7_from_20 : decode cX7_from 20 = .ok (.ifCond .eq 6, 3) := by decide +kernel
theorem dX7_from_23 : decode cX7_from 23 = .ok (.bipush (-3), 2) := by decide +kernel
theorem dX7_from_25 : decode cX7_from 25 = .ok (.ireturn, 1) := by decide +kernel
theorem dX7_from_26 : decode cX7_from 26 = .ok (.aload_n 0, 1) := by decide +kernel
theorem dX7_from_27 : decode cX7_from 27 = .ok (.getfield 31, 3) := by decide +kernel
theorem dX7_from_30 : decode cX7_from 30 = .ok (.aload_n 0, 1) := by decide +kernel
theorem dX7_from_31 : decode cX7_from 31 = .ok (.getfield 21, 3) := by decide +kernel
theorem dX7_from_34 : decode cX7_from 34 = .ok (.invokevirtual 128, 3) := by decide +kernel
theorem dX7_from_37 : decode cX7_from 37 = .ok (.iload_n 1, 1) := by decide +kernel
theorem dX7_from_38 : decode cX7_from 38 = .ok (.ifCond .ge 18, 3) := by decide +kernel
theorem dX7_from_41 : decode cX7_from 41 = .ok (.aload_n 0, 1) := by decide +kernel
theorem dX7_from_42 : decode cX7_from 42 = .ok (.getfield 31, 3) := by decide +kernel
theorem dX7_from_45 : decode cX7_from 45 = .ok (.aload_n 0, 1) := by decide +kernel
theorem dX7_from_46 : decode cX7_from 46 = .ok (.getfield 21, 3) := by decide +kernel
theorem dX7_from_49 : decode cX7_from 49 = .ok (.invokevirtual 132, 3) := by decide +kernel
theorem dX7_from_52 : decode cX7_from 52 = .ok (.invokevirtual 181, 3) := by decide +kernel
theorem dX7_from_55 : decode cX7_from 55 = .ok (.ireturn, 1) := by decide +kernel
theorem dX7_from_56 : decode cX7_from 56 = .ok (.aload_n 0, 1) := by decide +kernel
theorem dX7_from_57 : decode cX7_from 57 = .ok (.getfield 31, 3) := by decide +kernel
theorem dX7_from_60 : decode cX7_from 60 = .ok (.aload_n 0, 1) := by decide +kernel
theorem dX7_from_61 : decode cX7_from 61 = .ok (.getfield 21, 3) := by decide +kernel
theorem dX7_from_64 : decode cX7_from 64 = .ok (.invokevirtual 132, 3) := by decide +kernel
theorem dX7_from_67 : decode cX7_from 67 = .ok (.invokevirtual 184, 3) := by decide +kernel
theorem dX7_from_70 : decode cX7_from 70 = .ok (.istore_n 2, 1) := by decide +kernel
theorem dX7_from_71 : decode cX7_from 71 = .ok (.iload_n 2, 1) := by decide +kernel
theorem dX7_from_72 : decode cX7_from 72 = .ok (.bipush (-9), 2) := by decide +kernel
theorem dX7_from_74 : decode cX7_from 74 = .ok (.if_icmp .eq 14, 3) := by decide +kernel
theorem dX7_from_77 : decode cX7_from 77 = .ok (.aload_n 0, 1) := by decide +kernel
theorem dX7_from_78 : decode cX7_from 78 = .ok (.getfield 21, 3) := by decide +kernel
theorem dX7_from_81 : decode cX7_from 81 = .ok (.iload_n 1, 1) := by decide +kernel
theorem dX7_from_82 : decode cX7_from 82 = .ok (.invokevirtual 98, 3) := by decide +kernel
theorem dX7_from_85 : decode cX7_from 85 = .ok (.ifCond .ne 8, 3) := by decide +kernel
theorem dX7_from_88 : decode cX7_from 88 = .ok (.bipush (-9), 2) := by decide +kernel
theorem dX7_from_90 : decode cX7_from 90 = .ok (.goto 12, 3) := by decide +kernel
theorem dX7_from_93 : decode cX7_from 93 = .ok (.aload_n 0, 1) := by decide +kernel
theorem dX7_from_94 : decode cX7_from 94 = .ok (.getfield 31, 3) := by decide +kernel
theorem dX7_from_97 : decode cX7_from 97 = .ok (.iload_n 2, 1) := by decide +kernel
theorem dX7_from_98 : decode cX7_from 98 = .ok (.iload_n 1, 1) := by decide +kernel
theorem dX7_from_99 : decode cX7_from 99 = .ok (.invokevirtual 139, 3) := by decide +kernel
theorem dX7_from_102 : decode cX7_from 102 = .ok (.ireturn, 1) := by decide +kernel
theorem dX7_rows_0 : decode cX7_rows 0 = .ok (.iload_n 1, 1) := by decide +kernel
theorem dX7_rows_1 : decode cX7_rows 1 = .ok (.ifCond .lt 8, 3) := by decide +kernel
theorem dX7_rows_4 : decode cX7_rows 4 = .ok (.iload_n 1, 1) := by decide +kernel
theorem dX7_rows_5 : decode cX7_rows 5 = .ok (.iconst 4, 1) := by decide +kernel
theorem dX7_rows_6 : decode cX7_rows 6 = .ok (.if_icmp .le 6, 3) := by decide +kernel
theorem dX7_rows_9 : decode cX7_rows 9 = .ok (.bipush (-2), 2) := by decide +kernel
theorem dX7_rows_11 : decode cX7_rows 11 = .ok (.ireturn, 1) := by decide +kernel
theorem dX7_rows_12 : decode cX7_rows 12 = .ok (.aload_n 0, 1) := by decide +kernel
theorem dX7_rows_13 : decode cX7_rows 13 = .ok (.getfield 21, 3) := by decide +kernel
theorem dX7_rows_16 : decode cX7_rows 16 = .ok (.invokevirtual 115, 3) := by decide +kernel
theorem dX7_rows_19 : decode cX7_rows 19 = .ok (.ifCond .eq 6, 3) := by decide +kernel
theorem dX7_rows_22 : decode cX7_rows 22 = .ok (.bipush (-3), 2) := by decide +kernel
theorem dX7_rows_24 : decode cX7_rows 24 = .ok (.ireturn, 1) := by decide +kernel
theorem dX7_rows_25 : decode cX7_rows 25 = .ok (.aload_n 0, 1) := by decide +kernel
theorem dX7_rows_26 : decode cX7_rows 26 = .ok (.getfield 31, 3) := by decide +kernel
theorem dX7_rows_29 : decode cX7_rows 29 = .ok (.aload_n 0, 1) := by decide +kernel
theorem dX7_rows_30 : decode cX7_rows 30 = .ok (.getfield 21, 3) := by decide +kernel
theorem dX7_rows_33 : decode cX7_rows 33 = .ok (.invokevirtual 128, 3) := by decide +kernel
theorem dX7_rows_36 : decode cX7_rows 36 = .ok (.iload_n 1, 1) := by decide +kernel
theorem dX7_rows_37 : decode cX7_rows 37 = .ok (.tableswitch 63 0 3 #[31, 39, 47, 55], 31) := by decide +kernel
theorem dX7_rows_68 : decode cX7_rows 68 = .ok (.aload_n 0, 1) := by decide +kernel
theorem dX7_rows_69 : decode cX7_rows 69 = .ok (.getfield 31, 3) := by decide +kernel
theorem dX7_rows_72 : decode cX7_rows 72 = .ok (.getfield 187, 3) := by decide +kernel
theorem dX7_rows_75 : decode cX7_rows 75 = .ok (.ireturn, 1) := by decide +kernel
theorem dX7_rows_76 : decode cX7_rows 76 = .ok (.aload_n 0, 1) := by decide +kernel
theorem dX7_rows_77 : decode cX7_rows 77 = .ok (.getfield 31, 3) := by decide +kernel
theorem dX7_rows_80 : decode cX7_rows 80 = .ok (.getfield 188, 3) := by decide +kernel
theorem dX7_rows_83 : decode cX7_rows 83 = .ok (.ireturn, 1) := by decide +kernel
theorem dX7_rows_84 : decode cX7_rows 84 = .ok (.aload_n 0, 1) := by decide +kernel
theorem dX7_rows_85 : decode cX7_rows 85 = .ok (.getfield 31, 3) := by decide +kernel
theorem dX7_rows_88 : decode cX7_rows 88 = .ok (.getfield 191, 3) := by decide +kernel
theorem dX7_rows_91 : decode cX7_rows 91 = .ok (.ireturn, 1) := by decide +kernel
theorem dX7_rows_92 : decode cX7_rows 92 = .ok (.aload_n 0, 1) := by decide +kernel
theorem dX7_rows_93 : decode cX7_rows 93 = .ok (.getfield 31, 3) := by decide +kernel
theorem dX7_rows_96 : decode cX7_rows 96 = .ok (.getfield 194, 3) := by decide +kernel
theorem dX7_rows_99 : decode cX7_rows 99 = .ok (.ireturn, 1) := by decide +kernel
theorem dX7_rows_100 : decode cX7_rows 100 = .ok (.aload_n 0, 1) := by decide +kernel
theorem dX7_rows_101 : decode cX7_rows 101 = .ok (.getfield 31, 3) := by decide +kernel
theorem dX7_rows_104 : decode cX7_rows 104 = .ok (.getfield 197, 3) := by decide +kernel
theorem dX7_rows_107 : decode cX7_rows 107 = .ok (.ireturn, 1) := by decide +kernel
theorem dX7_longest_0 : decode cX7_longest 0 = .ok (.iload_n 1, 1) := by decide +kernel
theorem dX7_longest_1 : decode cX7_longest 1 = .ok (.iconst (-1), 1) := by decide +kernel
theorem dX7_longest_2 : decode cX7_longest 2 = .ok (.if_icmp .lt 8, 3) := by decide +kernel
theorem dX7_longest_5 : decode cX7_longest 5 = .ok (.iload_n 1, 1) := by decide +kernel
theorem dX7_longest_6 : decode cX7_longest 6 = .ok (.iconst 5, 1) := by decide +kernel
theorem dX7_longest_7 : decode cX7_longest 7 = .ok (.if_icmp .lt 6, 3) := by decide +kernel
theorem dX7_longest_10 : decode cX7_longest 10 = .ok (.bipush (-2), 2) := by decide +kernel
theorem dX7_longest_12 : decode cX7_longest 12 = .ok (.ireturn, 1) := by decide +kernel
theorem dX7_longest_13 : decode cX7_longest 13 = .ok (.aload_n 0, 1) := by decide +kernel
theorem dX7_longest_14 : decode cX7_longest 14 = .ok (.getfield 21, 3) := by decide +kernel
theorem dX7_longest_17 : decode cX7_longest 17 = .ok (.invokevirtual 115, 3) := by decide +kernel
theorem dX7_longest_20 : decode cX7_longest 20 = .ok (.ifCond .eq 6, 3) := by decide +kernel
theorem dX7_longest_23 : decode cX7_longest 23 = .ok (.bipush (-3), 2) := by decide +kernel
theorem dX7_longest_25 : decode cX7_longest 25 = .ok (.ireturn, 1) := by decide +kernel
theorem dX7_longest_26 : decode cX7_longest 26 = .ok (.aload_n 0, 1) := by decide +kernel
theorem dX7_longest_27 : decode cX7_longest 27 = .ok (.getfield 31, 3) := by decide +kernel
theorem dX7_longest_30 : decode cX7_longest 30 = .ok (.aload_n 0, 1) := by decide +kernel
theorem dX7_longest_31 : decode cX7_longest 31 = .ok (.getfield 21, 3) := by decide +kernel
theorem dX7_longest_34 : decode cX7_longest 34 = .ok (.invokevirtual 128, 3) := by decide +kernel
theorem dX7_longest_37 : decode cX7_longest 37 = .ok (.iload_n 1, 1) := by decide +kernel
theorem dX7_longest_38 : decode cX7_longest 38 = .ok (.ifCond .ge 11, 3) := by decide +kernel
theorem dX7_longest_41 : decode cX7_longest 41 = .ok (.aload_n 0, 1) := by decide +kernel
theorem dX7_longest_42 : decode cX7_longest 42 = .ok (.getfield 31, 3) := by decide +kernel
theorem dX7_longest_45 : decode cX7_longest 45 = .ok (.getfield 200, 3) := by decide +kernel
theorem dX7_longest_48 : decode cX7_longest 48 = .ok (.ireturn, 1) := by decide +kernel
theorem dX7_longest_49 : decode cX7_longest 49 = .ok (.aload_n 0, 1) := by decide +kernel
theorem dX7_longest_50 : decode cX7_longest 50 = .ok (.getfield 21, 3) := by decide +kernel
theorem dX7_longest_53 : decode cX7_longest 53 = .ok (.iload_n 1, 1) := by decide +kernel
theorem dX7_longest_54 : decode cX7_longest 54 = .ok (.invokevirtual 98, 3) := by decide +kernel
theorem dX7_longest_57 : decode cX7_longest 57 = .ok (.ifCond .eq 21, 3) := by decide +kernel
theorem dX7_longest_60 : decode cX7_longest 60 = .ok (.aload_n 0, 1) := by decide +kernel
theorem dX7_longest_61 : decode cX7_longest 61 = .ok (.getfield 31, 3) := by decide +kernel
theorem dX7_longest_64 : decode cX7_longest 64 = .ok (.aload_n 0, 1) := by decide +kernel
theorem dX7_longest_65 : decode cX7_longest 65 = .ok (.getfield 31, 3) := by decide +kernel
theorem dX7_longest_68 : decode cX7_longest 68 = .ok (.getfield 203, 3) := by decide +kernel
theorem dX7_longest_71 : decode cX7_longest 71 = .ok (.iload_n 1, 1) := by decide +kernel
theorem dX7_longest_72 : decode cX7_longest 72 = .ok (.invokevirtual 139, 3) := by decide +kernel
theorem dX7_longest_75 : decode cX7_longest 75 = .ok (.goto 5, 3) := by decide +kernel
theorem dX7_longest_78 : decode cX7_longest 78 = .ok (.bipush (-9), 2) := by decide +kernel
theorem dX7_longest_80 : decode cX7_longest 80 = .ok (.ireturn, 1) := by decide +kernel
theorem dX7_meet_0 : decode cX7_meet 0 = .ok (.aload_n 0, 1) := by decide +kernel
theorem dX7_meet_1 : decode cX7_meet 1 = .ok (.iconst 0, 1) := by decide +kernel
theorem dX7_meet_2 : decode cX7_meet 2 = .ok (.putfield 56, 3) := by decide +kernel
theorem dX7_meet_5 : decode cX7_meet 5 = .ok (.aload_n 0, 1) := by decide +kernel
theorem dX7_meet_6 : decode cX7_meet 6 = .ok (.getfield 21, 3) := by decide +kernel
theorem dX7_meet_9 : decode cX7_meet 9 = .ok (.invokevirtual 115, 3) := by decide +kernel
theorem dX7_meet_12 : decode cX7_meet 12 = .ok (.ifCond .eq 6, 3) := by decide +kernel
theorem dX7_meet_15 : decode cX7_meet 15 = .ok (.bipush (-3), 2) := by decide +kernel
theorem dX7_meet_17 : decode cX7_meet 17 = .ok (.ireturn, 1) := by decide +kernel
theorem dX7_meet_18 : decode cX7_meet 18 = .ok (.iload_n 1, 1) := by decide +kernel
theorem dX7_meet_19 : decode cX7_meet 19 = .ok (.invokestatic 60, 3) := by decide +kernel
theorem dX7_meet_22 : decode cX7_meet 22 = .ok (.ifCond .ne 5, 3) := by decide +kernel
theorem dX7_meet_25 : decode cX7_meet 25 = .ok (.iconst (-1), 1) := by decide +kernel
theorem dX7_meet_26 : decode cX7_meet 26 = .ok (.ireturn, 1) := by decide +kernel
theorem dX7_meet_27 : decode cX7_meet 27 = .ok (.iload_n 2, 1) := by decide +kernel
theorem dX7_meet_28 : decode cX7_meet 28 = .ok (.invokestatic 64, 3) := by decide +kernel
theorem dX7_meet_31 : decode cX7_meet 31 = .ok (.ifCond .ne 6, 3) := by decide +kernel
theorem dX7_meet_34 : decode cX7_meet 34 = .ok (.bipush (-2), 2) := by decide +kernel
theorem dX7_meet_36 : decode cX7_meet 36 = .ok (.ireturn, 1) := by decide +kernel
theorem dX7_meet_37 : decode cX7_meet 37 = .ok (.aload_n 0, 1) := by decide +kernel
theorem dX7_meet_38 : decode cX7_meet 38 = .ok (.getfield 13, 3) := by decide +kernel
theorem dX7_meet_41 : decode cX7_meet 41 = .ok (.iload_n 1, 1) := by decide +kernel
theorem dX7_meet_42 : decode cX7_meet 42 = .ok (.aaload, 1) := by decide +kernel
theorem dX7_meet_43 : decode cX7_meet 43 = .ok (.astore 4, 2) := by decide +kernel
theorem dX7_meet_45 : decode cX7_meet 45 = .ok (.aload_n 0, 1) := by decide +kernel
theorem dX7_meet_46 : decode cX7_meet 46 = .ok (.aload 4, 2) := by decide +kernel
theorem dX7_meet_48 : decode cX7_meet 48 = .ok (.iload_n 2, 1) := by decide +kernel
theorem dX7_meet_49 : decode cX7_meet 49 = .ok (.iload_n 3, 1) := by decide +kernel
theorem dX7_meet_50 : decode cX7_meet 50 = .ok (.aload_n 0, 1) := by decide +kernel
theorem dX7_meet_51 : decode cX7_meet 51 = .ok (.getfield 21, 3) := by decide +kernel
theorem dX7_meet_54 : decode cX7_meet 54 = .ok (.getfield 95, 3) := by decide +kernel
theorem dX7_meet_57 : decode cX7_meet 57 = .ok (.invokevirtual 67, 3) := by decide +kernel
theorem dX7_meet_60 : decode cX7_meet 60 = .ok (.putfield 56, 3) := by decide +kernel
theorem dX7_meet_63 : decode cX7_meet 63 = .ok (.aload_n 0, 1) := by decide +kernel
theorem dX7_meet_64 : decode cX7_meet 64 = .ok (.getfield 56, 3) := by decide +kernel
theorem dX7_meet_67 : decode cX7_meet 67 = .ok (.ifCond .eq 8, 3) := by decide +kernel
theorem dX7_meet_70 : decode cX7_meet 70 = .ok (.aload_n 0, 1) := by decide +kernel
theorem dX7_meet_71 : decode cX7_meet 71 = .ok (.invokevirtual 71, 3) := by decide +kernel
theorem dX7_meet_74 : decode cX7_meet 74 = .ok (.ireturn, 1) := by decide +kernel
theorem dX7_meet_75 : decode cX7_meet 75 = .ok (.aload_n 0, 1) := by decide +kernel
theorem dX7_meet_76 : decode cX7_meet 76 = .ok (.getfield 25, 3) := by decide +kernel
theorem dX7_meet_79 : decode cX7_meet 79 = .ok (.aload_n 0, 1) := by decide +kernel
theorem dX7_meet_80 : decode cX7_meet 80 = .ok (.getfield 21, 3) := by decide +kernel
theorem dX7_meet_83 : decode cX7_meet 83 = .ok (.invokevirtual 150, 3) := by decide +kernel
theorem dX7_meet_86 : decode cX7_meet 86 = .ok (.aload_n 0, 1) := by decide +kernel
theorem dX7_meet_87 : decode cX7_meet 87 = .ok (.getfield 25, 3) := by decide +kernel
theorem dX7_meet_90 : decode cX7_meet 90 = .ok (.aload 4, 2) := by decide +kernel
theorem dX7_meet_92 : decode cX7_meet 92 = .ok (.iload_n 3, 1) := by decide +kernel
theorem dX7_meet_93 : decode cX7_meet 93 = .ok (.invokevirtual 206, 3) := by decide +kernel
theorem dX7_meet_96 : decode cX7_meet 96 = .ok (.ifCond .ne 6, 3) := by decide +kernel
theorem dX7_meet_99 : decode cX7_meet 99 = .ok (.bipush (-2), 2) := by decide +kernel
theorem dX7_meet_101 : decode cX7_meet 101 = .ok (.ireturn, 1) := by decide +kernel
theorem dX7_meet_102 : decode cX7_meet 102 = .ok (.aload_n 0, 1) := by decide +kernel
theorem dX7_meet_103 : decode cX7_meet 103 = .ok (.getfield 31, 3) := by decide +kernel
theorem dX7_meet_106 : decode cX7_meet 106 = .ok (.aload_n 0, 1) := by decide +kernel
theorem dX7_meet_107 : decode cX7_meet 107 = .ok (.getfield 21, 3) := by decide +kernel
theorem dX7_meet_110 : decode cX7_meet 110 = .ok (.invokevirtual 128, 3) := by decide +kernel
theorem dX7_meet_113 : decode cX7_meet 113 = .ok (.aload_n 0, 1) := by decide +kernel
theorem dX7_meet_114 : decode cX7_meet 114 = .ok (.getfield 31, 3) := by decide +kernel
theorem dX7_meet_117 : decode cX7_meet 117 = .ok (.aload_n 0, 1) := by decide +kernel
theorem dX7_meet_118 : decode cX7_meet 118 = .ok (.getfield 21, 3) := by decide +kernel
theorem dX7_meet_121 : decode cX7_meet 121 = .ok (.invokevirtual 132, 3) := by decide +kernel
theorem dX7_meet_124 : decode cX7_meet 124 = .ok (.aload_n 0, 1) := by decide +kernel
theorem dX7_meet_125 : decode cX7_meet 125 = .ok (.getfield 25, 3) := by decide +kernel
theorem dX7_meet_128 : decode cX7_meet 128 = .ok (.invokevirtual 132, 3) := by decide +kernel
theorem dX7_meet_131 : decode cX7_meet 131 = .ok (.invokevirtual 210, 3) := by decide +kernel
theorem dX7_meet_134 : decode cX7_meet 134 = .ok (.ireturn, 1) := by decide +kernel
theorem dX7_few_0 : decode cX7_few 0 = .ok (.iload_n 1, 1) := by decide +kernel
theorem dX7_few_1 : decode cX7_few 1 = .ok (.ifCond .lt 8, 3) := by decide +kernel
theorem dX7_few_4 : decode cX7_few 4 = .ok (.iload_n 1, 1) := by decide +kernel
theorem dX7_few_5 : decode cX7_few 5 = .ok (.iconst 1, 1) := by decide +kernel
theorem dX7_few_6 : decode cX7_few 6 = .ok (.if_icmp .le 6, 3) := by decide +kernel
theorem dX7_few_9 : decode cX7_few 9 = .ok (.bipush (-2), 2) := by decide +kernel
theorem dX7_few_11 : decode cX7_few 11 = .ok (.ireturn, 1) := by decide +kernel
theorem dX7_few_12 : decode cX7_few 12 = .ok (.aload_n 0, 1) := by decide +kernel
theorem dX7_few_13 : decode cX7_few 13 = .ok (.getfield 21, 3) := by decide +kernel
theorem dX7_few_16 : decode cX7_few 16 = .ok (.invokevirtual 115, 3) := by decide +kernel
theorem dX7_few_19 : decode cX7_few 19 = .ok (.ifCond .eq 6, 3) := by decide +kernel
theorem dX7_few_22 : decode cX7_few 22 = .ok (.bipush (-3), 2) := by decide +kernel
theorem dX7_few_24 : decode cX7_few 24 = .ok (.ireturn, 1) := by decide +kernel
theorem dX7_few_25 : decode cX7_few 25 = .ok (.aload_n 0, 1) := by decide +kernel
theorem dX7_few_26 : decode cX7_few 26 = .ok (.getfield 31, 3) := by decide +kernel
theorem dX7_few_29 : decode cX7_few 29 = .ok (.aload_n 0, 1) := by decide +kernel
theorem dX7_few_30 : decode cX7_few 30 = .ok (.getfield 21, 3) := by decide +kernel
theorem dX7_few_33 : decode cX7_few 33 = .ok (.invokevirtual 128, 3) := by decide +kernel
theorem dX7_few_36 : decode cX7_few 36 = .ok (.aload_n 0, 1) := by decide +kernel
theorem dX7_few_37 : decode cX7_few 37 = .ok (.getfield 31, 3) := by decide +kernel
theorem dX7_few_40 : decode cX7_few 40 = .ok (.aload_n 0, 1) := by decide +kernel
theorem dX7_few_41 : decode cX7_few 41 = .ok (.getfield 21, 3) := by decide +kernel
theorem dX7_few_44 : decode cX7_few 44 = .ok (.invokevirtual 132, 3) := by decide +kernel
theorem dX7_few_47 : decode cX7_few 47 = .ok (.invokevirtual 213, 3) := by decide +kernel
theorem dX7_few_50 : decode cX7_few 50 = .ok (.istore_n 2, 1) := by decide +kernel
theorem dX7_few_51 : decode cX7_few 51 = .ok (.iload_n 1, 1) := by decide +kernel
theorem dX7_few_52 : decode cX7_few 52 = .ok (.ifCond .ne 10, 3) := by decide +kernel
theorem dX7_few_55 : decode cX7_few 55 = .ok (.iload_n 2, 1) := by decide +kernel
theorem dX7_few_56 : decode cX7_few 56 = .ok (.invokestatic 216, 3) := by decide +kernel
theorem dX7_few_59 : decode cX7_few 59 = .ok (.goto 4, 3) := by decide +kernel
theorem dX7_few_62 : decode cX7_few 62 = .ok (.iload_n 2, 1) := by decide +kernel
theorem dX7_few_63 : decode cX7_few 63 = .ok (.ireturn, 1) := by decide +kernel
theorem dX7_reading_0 : decode cX7_reading 0 = .ok (.aload_n 0, 1) := by decide +kernel
theorem dX7_reading_1 : decode cX7_reading 1 = .ok (.getfield 21, 3) := by decide +kernel
theorem dX7_reading_4 : decode cX7_reading 4 = .ok (.iload_n 2, 1) := by decide +kernel
theorem dX7_reading_5 : decode cX7_reading 5 = .ok (.invokevirtual 98, 3) := by decide +kernel
theorem dX7_reading_8 : decode cX7_reading 8 = .ok (.ifCond .ne 5, 3) := by decide +kernel
theorem dX7_reading_11 : decode cX7_reading 11 = .ok (.iconst (-1), 1) := by decide +kernel
theorem dX7_reading_12 : decode cX7_reading 12 = .ok (.ireturn, 1) := by decide +kernel
theorem dX7_reading_13 : decode cX7_reading 13 = .ok (.iload_n 1, 1) := by decide +kernel
theorem dX7_reading_14 : decode cX7_reading 14 = .ok (.iload_n 3, 1) := by decide +kernel
theorem dX7_reading_15 : decode cX7_reading 15 = .ok (.invokestatic 221, 3) := by decide +kernel
theorem dX7_reading_18 : decode cX7_reading 18 = .ok (.ifCond .ne 6, 3) := by decide +kernel
theorem dX7_reading_21 : decode cX7_reading 21 = .ok (.bipush (-2), 2) := by decide +kernel
theorem dX7_reading_23 : decode cX7_reading 23 = .ok (.ireturn, 1) := by decide +kernel
theorem dX7_reading_24 : decode cX7_reading 24 = .ok (.aload_n 0, 1) := by decide +kernel
theorem dX7_reading_25 : decode cX7_reading 25 = .ok (.getfield 45, 3) := by decide +kernel
theorem dX7_reading_28 : decode cX7_reading 28 = .ok (.iload_n 1, 1) := by decide +kernel
theorem dX7_reading_29 : decode cX7_reading 29 = .ok (.iload_n 2, 1) := by decide +kernel
theorem dX7_reading_30 : decode cX7_reading 30 = .ok (.iload_n 3, 1) := by decide +kernel
theorem dX7_reading_31 : decode cX7_reading 31 = .ok (.invokevirtual 225, 3) := by decide +kernel
theorem dX7_reading_34 : decode cX7_reading 34 = .ok (.ireturn, 1) := by decide +kernel
theorem dX7_back_0 : decode cX7_back 0 = .ok (.iload_n 1, 1) := by decide +kernel
theorem dX7_back_1 : decode cX7_back 1 = .ok (.ifCond .lt 14, 3) := by decide +kernel
theorem dX7_back_4 : decode cX7_back 4 = .ok (.iload_n 1, 1) := by decide +kernel
theorem dX7_back_5 : decode cX7_back 5 = .ok (.aload_n 0, 1) := by decide +kernel
theorem dX7_back_6 : decode cX7_back 6 = .ok (.getfield 45, 3) := by decide +kernel
theorem dX7_back_9 : decode cX7_back 9 = .ok (.getfield 88, 3) := by decide +kernel
theorem dX7_back_12 : decode cX7_back 12 = .ok (.if_icmp .le 6, 3) := by decide +kernel
theorem dX7_back_15 : decode cX7_back 15 = .ok (.bipush (-2), 2) := by decide +kernel
theorem dX7_back_17 : decode cX7_back 17 = .ok (.ireturn, 1) := by decide +kernel
theorem dX7_back_18 : decode cX7_back 18 = .ok (.aload_n 0, 1) := by decide +kernel
theorem dX7_back_19 : decode cX7_back 19 = .ok (.getfield 45, 3) := by decide +kernel
theorem dX7_back_22 : decode cX7_back 22 = .ok (.dup, 1) := by decide +kernel
theorem dX7_back_23 : decode cX7_back 23 = .ok (.getfield 88, 3) := by decide +kernel
theorem dX7_back_26 : decode cX7_back 26 = .ok (.iload_n 1, 1) := by decide +kernel
theorem dX7_back_27 : decode cX7_back 27 = .ok (.isub, 1) := by decide +kernel
theorem dX7_back_28 : decode cX7_back 28 = .ok (.putfield 88, 3) := by decide +kernel
theorem dX7_back_31 : decode cX7_back 31 = .ok (.aload_n 0, 1) := by decide +kernel
theorem dX7_back_32 : decode cX7_back 32 = .ok (.getfield 45, 3) := by decide +kernel
theorem dX7_back_35 : decode cX7_back 35 = .ok (.getfield 88, 3) := by decide +kernel
theorem dX7_back_38 : decode cX7_back 38 = .ok (.ireturn, 1) := by decide +kernel
theorem dX7_kinds_0 : decode cX7_kinds 0 = .ok (.aload_n 0, 1) := by decide +kernel
theorem dX7_kinds_1 : decode cX7_kinds 1 = .ok (.getfield 21, 3) := by decide +kernel
theorem dX7_kinds_4 : decode cX7_kinds 4 = .ok (.iload_n 1, 1) := by decide +kernel
theorem dX7_kinds_5 : decode cX7_kinds 5 = .ok (.invokevirtual 98, 3) := by decide +kernel
theorem dX7_kinds_8 : decode cX7_kinds 8 = .ok (.ifCond .ne 5, 3) := by decide +kernel
theorem dX7_kinds_11 : decode cX7_kinds 11 = .ok (.iconst (-1), 1) := by decide +kernel
theorem dX7_kinds_12 : decode cX7_kinds 12 = .ok (.ireturn, 1) := by decide +kernel
theorem dX7_kinds_13 : decode cX7_kinds 13 = .ok (.iconst 0, 1) := by decide +kernel
theorem dX7_kinds_14 : decode cX7_kinds 14 = .ok (.istore_n 2, 1) := by decide +kernel
theorem dX7_kinds_15 : decode cX7_kinds 15 = .ok (.iconst 0, 1) := by decide +kernel
theorem dX7_kinds_16 : decode cX7_kinds 16 = .ok (.istore_n 3, 1) := by decide +kernel
theorem dX7_kinds_17 : decode cX7_kinds 17 = .ok (.iload_n 3, 1) := by decide +kernel
theorem dX7_kinds_18 : decode cX7_kinds 18 = .ok (.iconst 2, 1) := by decide +kernel
theorem dX7_kinds_19 : decode cX7_kinds 19 = .ok (.if_icmp .gt 50, 3) := by decide +kernel
theorem dX7_kinds_22 : decode cX7_kinds 22 = .ok (.aload_n 0, 1) := by decide +kernel
theorem dX7_kinds_23 : decode cX7_kinds 23 = .ok (.getfield 25, 3) := by decide +kernel
theorem dX7_kinds_26 : decode cX7_kinds 26 = .ok (.aload_n 0, 1) := by decide +kernel
theorem dX7_kinds_27 : decode cX7_kinds 27 = .ok (.getfield 21, 3) := by decide +kernel
theorem dX7_kinds_30 : decode cX7_kinds 30 = .ok (.invokevirtual 150, 3) := by decide +kernel
theorem dX7_kinds_33 : decode cX7_kinds 33 = .ok (.aload_n 0, 1) := by decide +kernel
theorem dX7_kinds_34 : decode cX7_kinds 34 = .ok (.getfield 25, 3) := by decide +kernel
theorem dX7_kinds_37 : decode cX7_kinds 37 = .ok (.getfield 101, 3) := by decide +kernel
theorem dX7_kinds_40 : decode cX7_kinds 40 = .ok (.iload_n 1, 1) := by decide +kernel
theorem dX7_kinds_41 : decode cX7_kinds 41 = .ok (.iload_n 3, 1) := by decide +kernel
theorem dX7_kinds_42 : decode cX7_kinds 42 = .ok (.iastore, 1) := by decide +kernel
theorem dX7_kinds_43 : decode cX7_kinds 43 = .ok (.aload_n 0, 1) := by decide +kernel
theorem dX7_kinds_44 : decode cX7_kinds 44 = .ok (.getfield 45, 3) := by decide +kernel
theorem dX7_kinds_47 : decode cX7_kinds 47 = .ok (.aload_n 0, 1) := by decide +kernel
theorem dX7_kinds_48 : decode cX7_kinds 48 = .ok (.getfield 25, 3) := by decide +kernel
theorem dX7_kinds_51 : decode cX7_kinds 51 = .ok (.invokevirtual 228, 3) := by decide +kernel
theorem dX7_kinds_54 : decode cX7_kinds 54 = .ok (.ifCond .eq 9, 3) := by decide +kernel
theorem dX7_kinds_57 : decode cX7_kinds 57 = .ok (.iload_n 2, 1) := by decide +kernel
theorem dX7_kinds_58 : decode cX7_kinds 58 = .ok (.iconst 1, 1) := by decide +kernel
theorem dX7_kinds_59 : decode cX7_kinds 59 = .ok (.iload_n 3, 1) := by decide +kernel
theorem dX7_kinds_60 : decode cX7_kinds 60 = .ok (.ishl, 1) := by decide +kernel
theorem dX7_kinds_61 : decode cX7_kinds 61 = .ok (.ior, 1) := by decide +kernel
theorem dX7_kinds_62 : decode cX7_kinds 62 = .ok (.istore_n 2, 1) := by decide +kernel
theorem dX7_kinds_63 : decode cX7_kinds 63 = .ok (.iinc 3 1, 3) := by decide +kernel
theorem dX7_kinds_66 : decode cX7_kinds 66 = .ok (.goto (-49), 3) := by decide +kernel
theorem dX7_kinds_69 : decode cX7_kinds 69 = .ok (.iload_n 2, 1) := by decide +kernel
theorem dX7_kinds_70 : decode cX7_kinds 70 = .ok (.ireturn, 1) := by decide +kernel
theorem dX7_firsts_0 : decode cX7_firsts 0 = .ok (.aload_n 0, 1) := by decide +kernel
theorem dX7_firsts_1 : decode cX7_firsts 1 = .ok (.getfield 21, 3) := by decide +kernel
theorem dX7_firsts_4 : decode cX7_firsts 4 = .ok (.iload_n 1, 1) := by decide +kernel
theorem dX7_firsts_5 : decode cX7_firsts 5 = .ok (.invokevirtual 98, 3) := by decide +kernel
theorem dX7_firsts_8 : decode cX7_firsts 8 = .ok (.ifCond .ne 5, 3) := by decide +kernel
theorem dX7_firsts_11 : decode cX7_firsts 11 = .ok (.iconst (-1), 1) := by decide +kernel
theorem dX7_firsts_12 : decode cX7_firsts 12 = .ok (.ireturn, 1) := by decide +kernel
theorem dX7_firsts_13 : decode cX7_firsts 13 = .ok (.iconst 0, 1) := by decide +kernel
theorem dX7_firsts_14 : decode cX7_firsts 14 = .ok (.istore_n 2, 1) := by decide +kernel
theorem dX7_firsts_15 : decode cX7_firsts 15 = .ok (.iconst 0, 1) := by decide +kernel
theorem dX7_firsts_16 : decode cX7_firsts 16 = .ok (.istore_n 3, 1) := by decide +kernel
theorem dX7_firsts_17 : decode cX7_firsts 17 = .ok (.iload_n 3, 1) := by decide +kernel
theorem dX7_firsts_18 : decode cX7_firsts 18 = .ok (.aload_n 0, 1) := by decide +kernel
theorem dX7_firsts_19 : decode cX7_firsts 19 = .ok (.getfield 21, 3) := by decide +kernel
theorem dX7_firsts_22 : decode cX7_firsts 22 = .ok (.getfield 232, 3) := by decide +kernel
theorem dX7_firsts_25 : decode cX7_firsts 25 = .ok (.if_icmp .ge 50, 3) := by decide +kernel
theorem dX7_firsts_28 : decode cX7_firsts 28 = .ok (.aload_n 0, 1) := by decide +kernel
theorem dX7_firsts_29 : decode cX7_firsts 29 = .ok (.getfield 25, 3) := by decide +kernel
theorem dX7_firsts_32 : decode cX7_firsts 32 = .ok (.aload_n 0, 1) := by decide +kernel
theorem dX7_firsts_33 : decode cX7_firsts 33 = .ok (.getfield 21, 3) := by decide +kernel
theorem dX7_firsts_36 : decode cX7_firsts 36 = .ok (.invokevirtual 150, 3) := by decide +kernel
theorem dX7_firsts_39 : decode cX7_firsts 39 = .ok (.aload_n 0, 1) := by decide +kernel
theorem dX7_firsts_40 : decode cX7_firsts 40 = .ok (.getfield 25, 3) := by decide +kernel
theorem dX7_firsts_43 : decode cX7_firsts 43 = .ok (.getfield 105, 3) := by decide +kernel
theorem dX7_firsts_46 : decode cX7_firsts 46 = .ok (.iload_n 1, 1) := by decide +kernel
theorem dX7_firsts_47 : decode cX7_firsts 47 = .ok (.iload_n 3, 1) := by decide +kernel
theorem dX7_firsts_48 : decode cX7_firsts 48 = .ok (.iastore, 1) := by decide +kernel
theorem dX7_firsts_49 : decode cX7_firsts 49 = .ok (.aload_n 0, 1) := by decide +kernel
theorem dX7_firsts_50 : decode cX7_firsts 50 = .ok (.getfield 45, 3) := by decide +kernel
theorem dX7_firsts_53 : decode cX7_firsts 53 = .ok (.aload_n 0, 1) := by decide +kernel
theorem dX7_firsts_54 : decode cX7_firsts 54 = .ok (.getfield 25, 3) := by decide +kernel
theorem dX7_firsts_57 : decode cX7_firsts 57 = .ok (.invokevirtual 228, 3) := by decide +kernel
theorem dX7_firsts_60 : decode cX7_firsts 60 = .ok (.ifCond .eq 9, 3) := by decide +kernel
theorem dX7_firsts_63 : decode cX7_firsts 63 = .ok (.iload_n 2, 1) := by decide +kernel
theorem dX7_firsts_64 : decode cX7_firsts 64 = .ok (.iconst 1, 1) := by decide +kernel
theorem dX7_firsts_65 : decode cX7_firsts 65 = .ok (.iload_n 3, 1) := by decide +kernel
theorem dX7_firsts_66 : decode cX7_firsts 66 = .ok (.ishl, 1) := by decide +kernel
theorem dX7_firsts_67 : decode cX7_firsts 67 = .ok (.ior, 1) := by decide +kernel
theorem dX7_firsts_68 : decode cX7_firsts 68 = .ok (.istore_n 2, 1) := by decide +kernel
theorem dX7_firsts_69 : decode cX7_firsts 69 = .ok (.iinc 3 1, 3) := by decide +kernel
theorem dX7_firsts_72 : decode cX7_firsts 72 = .ok (.goto (-55), 3) := by decide +kernel
theorem dX7_firsts_75 : decode cX7_firsts 75 = .ok (.iload_n 2, 1) := by decide +kernel
theorem dX7_firsts_76 : decode cX7_firsts 76 = .ok (.ireturn, 1) := by decide +kernel
theorem dX7_odds_0 : decode cX7_odds 0 = .ok (.aload_n 0, 1) := by decide +kernel
theorem dX7_odds_1 : decode cX7_odds 1 = .ok (.getfield 21, 3) := by decide +kernel
theorem dX7_odds_4 : decode cX7_odds 4 = .ok (.iload_n 1, 1) := by decide +kernel
theorem dX7_odds_5 : decode cX7_odds 5 = .ok (.invokevirtual 98, 3) := by decide +kernel
theorem dX7_odds_8 : decode cX7_odds 8 = .ok (.ifCond .eq 22, 3) := by decide +kernel
theorem dX7_odds_11 : decode cX7_odds 11 = .ok (.iload_n 2, 1) := by decide +kernel
theorem dX7_odds_12 : decode cX7_odds 12 = .ok (.iload_n 3, 1) := by decide +kernel
theorem dX7_odds_13 : decode cX7_odds 13 = .ok (.invokestatic 221, 3) := by decide +kernel
theorem dX7_odds_16 : decode cX7_odds 16 = .ok (.ifCond .eq 14, 3) := by decide +kernel
theorem dX7_odds_19 : decode cX7_odds 19 = .ok (.iload 4, 2) := by decide +kernel
theorem dX7_odds_21 : decode cX7_odds 21 = .ok (.ifCond .lt 9, 3) := by decide +kernel
theorem dX7_odds_24 : decode cX7_odds 24 = .ok (.iload 4, 2) := by decide +kernel
theorem dX7_odds_26 : decode cX7_odds 26 = .ok (.iconst 1, 1) := by decide +kernel
theorem dX7_odds_27 : decode cX7_odds 27 = .ok (.if_icmp .le 7, 3) := by decide +kernel
theorem dX7_odds_30 : decode cX7_odds 30 = .ok (.ldc2_w 235, 3) := by decide +kernel
theorem dX7_odds_33 : decode cX7_odds 33 = .ok (.lreturn, 1) := by decide +kernel
theorem dX7_odds_34 : decode cX7_odds 34 = .ok (.aload_n 0, 1) := by decide +kernel
theorem dX7_odds_35 : decode cX7_odds 35 = .ok (.getfield 31, 3) := by decide +kernel
theorem dX7_odds_38 : decode cX7_odds 38 = .ok (.aload_n 0, 1) := by decide +kernel
theorem dX7_odds_39 : decode cX7_odds 39 = .ok (.getfield 21, 3) := by decide +kernel
theorem dX7_odds_42 : decode cX7_odds 42 = .ok (.invokevirtual 128, 3) := by decide +kernel
theorem dX7_odds_45 : decode cX7_odds 45 = .ok (.aload_n 0, 1) := by decide +kernel
theorem dX7_odds_46 : decode cX7_odds 46 = .ok (.getfield 38, 3) := by decide +kernel
theorem dX7_odds_49 : decode cX7_odds 49 = .ok (.aload_n 0, 1) := by decide +kernel
theorem dX7_odds_50 : decode cX7_odds 50 = .ok (.getfield 31, 3) := by decide +kernel
theorem dX7_odds_53 : decode cX7_odds 53 = .ok (.iload_n 2, 1) := by decide +kernel
theorem dX7_odds_54 : decode cX7_odds 54 = .ok (.invokevirtual 237, 3) := by decide +kernel
theorem dX7_odds_57 : decode cX7_odds 57 = .ok (.aload_n 0, 1) := by decide +kernel
theorem dX7_odds_58 : decode cX7_odds 58 = .ok (.getfield 38, 3) := by decide +kernel
theorem dX7_odds_61 : decode cX7_odds 61 = .ok (.aload_n 0, 1) := by decide +kernel
theorem dX7_odds_62 : decode cX7_odds 62 = .ok (.getfield 31, 3) := by decide +kernel
theorem dX7_odds_65 : decode cX7_odds 65 = .ok (.iload_n 1, 1) := by decide +kernel
theorem dX7_odds_66 : decode cX7_odds 66 = .ok (.iload_n 3, 1) := by decide +kernel
theorem dX7_odds_67 : decode cX7_odds 67 = .ok (.invokevirtual 241, 3) := by decide +kernel
theorem dX7_odds_70 : decode cX7_odds 70 = .ok (.istore 5, 2) := by decide +kernel
theorem dX7_odds_72 : decode cX7_odds 72 = .ok (.iload 5, 2) := by decide +kernel
theorem dX7_odds_74 : decode cX7_odds 74 = .ok (.aload_n 0, 1) := by decide +kernel
theorem dX7_odds_75 : decode cX7_odds 75 = .ok (.getfield 31, 3) := by decide +kernel
theorem dX7_odds_78 : decode cX7_odds 78 = .ok (.getfield 187, 3) := by decide +kernel
theorem dX7_odds_81 : decode cX7_odds 81 = .ok (.invokestatic 245, 3) := by decide +kernel
theorem dX7_odds_84 : decode cX7_odds 84 = .ok (.istore 6, 2) := by decide +kernel
theorem dX7_odds_86 : decode cX7_odds 86 = .ok (.iload 6, 2) := by decide +kernel
theorem dX7_odds_88 : decode cX7_odds 88 = .ok (.iconst 1, 1) := by decide +kernel
theorem dX7_odds_89 : decode cX7_odds 89 = .ok (.if_icmp .ge 7, 3) := by decide +kernel
theorem dX7_odds_92 : decode cX7_odds 92 = .ok (.ldc2_w 235, 3) := by decide +kernel
theorem dX7_odds_95 : decode cX7_odds 95 = .ok (.lreturn, 1) := by decide +kernel
theorem dX7_odds_96 : decode cX7_odds 96 = .ok (.iload 4, 2) := by decide +kernel
theorem dX7_odds_98 : decode cX7_odds 98 = .ok (.ifCond .ne 8, 3) := by decide +kernel
theorem dX7_odds_101 : decode cX7_odds 101 = .ok (.iload 5, 2) := by decide +kernel
theorem dX7_odds_103 : decode cX7_odds 103 = .ok (.goto 10, 3) := by decide +kernel
theorem dX7_odds_106 : decode cX7_odds 106 = .ok (.aload_n 0, 1) := by decide +kernel
theorem dX7_odds_107 : decode cX7_odds 107 = .ok (.getfield 31, 3) := by decide +kernel
theorem dX7_odds_110 : decode cX7_odds 110 = .ok (.getfield 187, 3) := by decide +kernel
theorem dX7_odds_113 : decode cX7_odds 113 = .ok (.iload 6, 2) := by decide +kernel
theorem dX7_odds_115 : decode cX7_odds 115 = .ok (.idiv, 1) := by decide +kernel
theorem dX7_odds_116 : decode cX7_odds 116 = .ok (.i2l, 1) := by decide +kernel
theorem dX7_odds_117 : decode cX7_odds 117 = .ok (.lreturn, 1) := by decide +kernel
theorem dX7_sheet_0 : decode cX7_sheet 0 = .ok (.aload_n 0, 1) := by decide +kernel
theorem dX7_sheet_1 : decode cX7_sheet 1 = .ok (.iconst 0, 1) := by decide +kernel
theorem dX7_sheet_2 : decode cX7_sheet 2 = .ok (.putfield 56, 3) := by decide +kernel
theorem dX7_sheet_5 : decode cX7_sheet 5 = .ok (.iload_n 1, 1) := by decide +kernel
theorem dX7_sheet_6 : decode cX7_sheet 6 = .ok (.invokestatic 60, 3) := by decide +kernel
theorem dX7_sheet_9 : decode cX7_sheet 9 = .ok (.ifCond .ne 5, 3) := by decide +kernel
theorem dX7_sheet_12 : decode cX7_sheet 12 = .ok (.iconst (-1), 1) := by decide +kernel
theorem dX7_sheet_13 : decode cX7_sheet 13 = .ok (.ireturn, 1) := by decide +kernel
theorem dX7_sheet_14 : decode cX7_sheet 14 = .ok (.iload_n 2, 1) := by decide +kernel
theorem dX7_sheet_15 : decode cX7_sheet 15 = .ok (.invokestatic 64, 3) := by decide +kernel
theorem dX7_sheet_18 : decode cX7_sheet 18 = .ok (.ifCond .eq 9, 3) := by decide +kernel
theorem dX7_sheet_21 : decode cX7_sheet 21 = .ok (.iload_n 3, 1) := by decide +kernel
theorem dX7_sheet_22 : decode cX7_sheet 22 = .ok (.bipush 60, 2) := by decide +kernel
theorem dX7_sheet_24 : decode cX7_sheet 24 = .ok (.if_icmp .le 6, 3) := by decide +kernel
theorem dX7_sheet_27 : decode cX7_sheet 27 = .ok (.bipush (-2), 2) := by decide +kernel
theorem dX7_sheet_29 : decode cX7_sheet 29 = .ok (.ireturn, 1) := by decide +kernel
theorem dX7_sheet_30 : decode cX7_sheet 30 = .ok (.iload_n 3, 1) := by decide +kernel
theorem dX7_sheet_31 : decode cX7_sheet 31 = .ok (.ifCond .ge 13, 3) := by decide +kernel
theorem dX7_sheet_34 : decode cX7_sheet 34 = .ok (.aload_n 0, 1) := by decide +kernel
theorem dX7_sheet_35 : decode cX7_sheet 35 = .ok (.iconst 4, 1) := by decide +kernel
theorem dX7_sheet_36 : decode cX7_sheet 36 = .ok (.putfield 56, 3) := by decide +kernel
theorem dX7_sheet_39 : decode cX7_sheet 39 = .ok (.aload_n 0, 1) := by decide +kernel
theorem dX7_sheet_40 : decode cX7_sheet 40 = .ok (.invokevirtual 71, 3) := by decide +kernel
theorem dX7_sheet_43 : decode cX7_sheet 43 = .ok (.ireturn, 1) := by decide +kernel
theorem dX7_sheet_44 : decode cX7_sheet 44 = .ok (.aload_n 0, 1) := by decide +kernel
theorem dX7_sheet_45 : decode cX7_sheet 45 = .ok (.getfield 13, 3) := by decide +kernel
theorem dX7_sheet_48 : decode cX7_sheet 48 = .ok (.iload_n 1, 1) := by decide +kernel
theorem dX7_sheet_49 : decode cX7_sheet 49 = .ok (.aaload, 1) := by decide +kernel
theorem dX7_sheet_50 : decode cX7_sheet 50 = .ok (.iload_n 2, 1) := by decide +kernel
theorem dX7_sheet_51 : decode cX7_sheet 51 = .ok (.iload_n 3, 1) := by decide +kernel
theorem dX7_sheet_52 : decode cX7_sheet 52 = .ok (.invokevirtual 248, 3) := by decide +kernel
theorem dX7_sheet_55 : decode cX7_sheet 55 = .ok (.iconst 1, 1) := by decide +kernel
theorem dX7_sheet_56 : decode cX7_sheet 56 = .ok (.ireturn, 1) := by decide +kernel
theorem dX7_lose_0 : decode cX7_lose 0 = .ok (.iload_n 1, 1) := by decide +kernel
theorem dX7_lose_1 : decode cX7_lose 1 = .ok (.invokestatic 60, 3) := by decide +kernel
theorem dX7_lose_4 : decode cX7_lose 4 = .ok (.ifCond .ne 5, 3) := by decide +kernel
theorem dX7_lose_7 : decode cX7_lose 7 = .ok (.iconst (-1), 1) := by decide +kernel
theorem dX7_lose_8 : decode cX7_lose 8 = .ok (.ireturn, 1) := by decide +kernel
theorem dX7_lose_9 : decode cX7_lose 9 = .ok (.aload_n 0, 1) := by decide +kernel
theorem dX7_lose_10 : decode cX7_lose 10 = .ok (.getfield 13, 3) := by decide +kernel
theorem dX7_lose_13 : decode cX7_lose 13 = .ok (.iload_n 1, 1) := by decide +kernel
theorem dX7_lose_14 : decode cX7_lose 14 = .ok (.aaload, 1) := by decide +kernel
theorem dX7_lose_15 : decode cX7_lose 15 = .ok (.invokevirtual 252, 3) := by decide +kernel
theorem dX7_lose_18 : decode cX7_lose 18 = .ok (.ifCond .eq 7, 3) := by decide +kernel
theorem dX7_lose_21 : decode cX7_lose 21 = .ok (.iconst 0, 1) := by decide +kernel
theorem dX7_lose_22 : decode cX7_lose 22 = .ok (.goto 4, 3) := by decide +kernel
theorem dX7_lose_25 : decode cX7_lose 25 = .ok (.iconst 1, 1) := by decide +kernel
theorem dX7_lose_26 : decode cX7_lose 26 = .ok (.istore_n 2, 1) := by decide +kernel
theorem dX7_lose_27 : decode cX7_lose 27 = .ok (.aload_n 0, 1) := by decide +kernel
theorem dX7_lose_28 : decode cX7_lose 28 = .ok (.getfield 13, 3) := by decide +kernel
theorem dX7_lose_31 : decode cX7_lose 31 = .ok (.iload_n 1, 1) := by decide +kernel
theorem dX7_lose_32 : decode cX7_lose 32 = .ok (.aaload, 1) := by decide +kernel
theorem dX7_lose_33 : decode cX7_lose 33 = .ok (.invokevirtual 255, 3) := by decide +kernel
theorem dX7_lose_36 : decode cX7_lose 36 = .ok (.iload_n 2, 1) := by decide +kernel
theorem dX7_lose_37 : decode cX7_lose 37 = .ok (.ireturn, 1) := by decide +kernel
theorem dX7_put_0 : decode cX7_put 0 = .ok (.aload_n 0, 1) := by decide +kernel
theorem dX7_put_1 : decode cX7_put 1 = .ok (.iconst 0, 1) := by decide +kernel
theorem dX7_put_2 : decode cX7_put 2 = .ok (.putfield 56, 3) := by decide +kernel
theorem dX7_put_5 : decode cX7_put 5 = .ok (.iload_n 1, 1) := by decide +kernel
theorem dX7_put_6 : decode cX7_put 6 = .ok (.invokestatic 60, 3) := by decide +kernel
theorem dX7_put_9 : decode cX7_put 9 = .ok (.ifCond .ne 5, 3) := by decide +kernel
theorem dX7_put_12 : decode cX7_put 12 = .ok (.iconst (-1), 1) := by decide +kernel
theorem dX7_put_13 : decode cX7_put 13 = .ok (.ireturn, 1) := by decide +kernel
theorem dX7_put_14 : decode cX7_put 14 = .ok (.aload_n 0, 1) := by decide +kernel
theorem dX7_put_15 : decode cX7_put 15 = .ok (.aload_n 0, 1) := by decide +kernel
theorem dX7_put_16 : decode cX7_put 16 = .ok (.getfield 13, 3) := by decide +kernel
theorem dX7_put_19 : decode cX7_put 19 = .ok (.iload_n 1, 1) := by decide +kernel
theorem dX7_put_20 : decode cX7_put 20 = .ok (.aaload, 1) := by decide +kernel
theorem dX7_put_21 : decode cX7_put 21 = .ok (.iload_n 2, 1) := by decide +kernel
theorem dX7_put_22 : decode cX7_put 22 = .ok (.iconst 1, 1) := by decide +kernel
theorem dX7_put_23 : decode cX7_put 23 = .ok (.invokevirtual 258, 3) := by decide +kernel
theorem dX7_put_26 : decode cX7_put 26 = .ok (.putfield 56, 3) := by decide +kernel
theorem dX7_put_29 : decode cX7_put 29 = .ok (.aload_n 0, 1) := by decide +kernel
theorem dX7_put_30 : decode cX7_put 30 = .ok (.getfield 56, 3) := by decide +kernel
theorem dX7_put_33 : decode cX7_put 33 = .ok (.ifCond .eq 8, 3) := by decide +kernel
theorem dX7_put_36 : decode cX7_put 36 = .ok (.aload_n 0, 1) := by decide +kernel
theorem dX7_put_37 : decode cX7_put 37 = .ok (.invokevirtual 71, 3) := by decide +kernel
theorem dX7_put_40 : decode cX7_put 40 = .ok (.ireturn, 1) := by decide +kernel
theorem dX7_put_41 : decode cX7_put 41 = .ok (.aload_n 0, 1) := by decide +kernel
theorem dX7_put_42 : decode cX7_put 42 = .ok (.getfield 13, 3) := by decide +kernel
theorem dX7_put_45 : decode cX7_put 45 = .ok (.iload_n 1, 1) := by decide +kernel
theorem dX7_put_46 : decode cX7_put 46 = .ok (.aaload, 1) := by decide +kernel
theorem dX7_put_47 : decode cX7_put 47 = .ok (.iload_n 2, 1) := by decide +kernel
theorem dX7_put_48 : decode cX7_put 48 = .ok (.iload_n 3, 1) := by decide +kernel
theorem dX7_put_49 : decode cX7_put 49 = .ok (.invokevirtual 261, 3) := by decide +kernel
theorem dX7_put_52 : decode cX7_put 52 = .ok (.iconst 1, 1) := by decide +kernel
theorem dX7_put_53 : decode cX7_put 53 = .ok (.ireturn, 1) := by decide +kernel
theorem dX7_cell_0 : decode cX7_cell 0 = .ok (.aload_n 0, 1) := by decide +kernel
theorem dX7_cell_1 : decode cX7_cell 1 = .ok (.iconst 0, 1) := by decide +kernel
theorem dX7_cell_2 : decode cX7_cell 2 = .ok (.putfield 56, 3) := by decide +kernel
theorem dX7_cell_5 : decode cX7_cell 5 = .ok (.iload_n 1, 1) := by decide +kernel
theorem dX7_cell_6 : decode cX7_cell 6 = .ok (.invokestatic 60, 3) := by decide +kernel
theorem dX7_cell_9 : decode cX7_cell 9 = .ok (.ifCond .eq 10, 3) := by decide +kernel
theorem dX7_cell_12 : decode cX7_cell 12 = .ok (.iload_n 3, 1) := by decide +kernel
theorem dX7_cell_13 : decode cX7_cell 13 = .ok (.invokestatic 64, 3) := by decide +kernel
theorem dX7_cell_16 : decode cX7_cell 16 = .ok (.ifCond .ne 7, 3) := by decide +kernel
theorem dX7_cell_19 : decode cX7_cell 19 = .ok (.ldc2_w 235, 3) := by decide +kernel
theorem dX7_cell_22 : decode cX7_cell 22 = .ok (.lreturn, 1) := by decide +kernel
theorem dX7_cell_23 : decode cX7_cell 23 = .ok (.aload_n 0, 1) := by decide +kernel
theorem dX7_cell_24 : decode cX7_cell 24 = .ok (.aload_n 0, 1) := by decide +kernel
theorem dX7_cell_25 : decode cX7_cell 25 = .ok (.getfield 13, 3) := by decide +kernel
theorem dX7_cell_28 : decode cX7_cell 28 = .ok (.iload_n 1, 1) := by decide +kernel
theorem dX7_cell_29 : decode cX7_cell 29 = .ok (.aaload, 1) := by decide +kernel
theorem dX7_cell_30 : decode cX7_cell 30 = .ok (.iload_n 3, 1) := by decide +kernel
theorem dX7_cell_31 : decode cX7_cell 31 = .ok (.iload_n 2, 1) := by decide +kernel
theorem dX7_cell_32 : decode cX7_cell 32 = .ok (.iconst 1, 1) := by decide +kernel
theorem dX7_cell_33 : decode cX7_cell 33 = .ok (.invokevirtual 67, 3) := by decide +kernel
theorem dX7_cell_36 : decode cX7_cell 36 = .ok (.putfield 56, 3) := by decide +kernel
theorem dX7_cell_39 : decode cX7_cell 39 = .ok (.aload_n 0, 1) := by decide +kernel
theorem dX7_cell_40 : decode cX7_cell 40 = .ok (.getfield 56, 3) := by decide +kernel
theorem dX7_cell_43 : decode cX7_cell 43 = .ok (.ifCond .eq 9, 3) := by decide +kernel
theorem dX7_cell_46 : decode cX7_cell 46 = .ok (.ldc2_w 235, 3) := by decide +kernel
theorem dX7_cell_49 : decode cX7_cell 49 = .ok (.goto 14, 3) := by decide +kernel
theorem dX7_cell_52 : decode cX7_cell 52 = .ok (.aload_n 0, 1) := by decide +kernel
theorem dX7_cell_53 : decode cX7_cell 53 = .ok (.getfield 13, 3) := by decide +kernel
theorem dX7_cell_56 : decode cX7_cell 56 = .ok (.iload_n 1, 1) := by decide +kernel
theorem dX7_cell_57 : decode cX7_cell 57 = .ok (.aaload, 1) := by decide +kernel
theorem dX7_cell_58 : decode cX7_cell 58 = .ok (.iload_n 2, 1) := by decide +kernel
theorem dX7_cell_59 : decode cX7_cell 59 = .ok (.invokevirtual 264, 3) := by decide +kernel
theorem dX7_cell_62 : decode cX7_cell 62 = .ok (.i2l, 1) := by decide +kernel
theorem dX7_cell_63 : decode cX7_cell 63 = .ok (.lreturn, 1) := by decide +kernel
theorem dX7_copy_0 : decode cX7_copy 0 = .ok (.aload_n 0, 1) := by decide +kernel
theorem dX7_copy_1 : decode cX7_copy 1 = .ok (.iconst 0, 1) := by decide +kernel
theorem dX7_copy_2 : decode cX7_copy 2 = .ok (.putfield 56, 3) := by decide +kernel
theorem dX7_copy_5 : decode cX7_copy 5 = .ok (.iload_n 1, 1) := by decide +kernel
theorem dX7_copy_6 : decode cX7_copy 6 = .ok (.invokestatic 60, 3) := by decide +kernel
theorem dX7_copy_9 : decode cX7_copy 9 = .ok (.ifCond .eq 10, 3) := by decide +kernel
theorem dX7_copy_12 : decode cX7_copy 12 = .ok (.iload_n 3, 1) := by decide +kernel
theorem dX7_copy_13 : decode cX7_copy 13 = .ok (.invokestatic 60, 3) := by decide +kernel
theorem dX7_copy_16 : decode cX7_copy 16 = .ok (.ifCond .ne 5, 3) := by decide +kernel
theorem dX7_copy_19 : decode cX7_copy 19 = .ok (.iconst (-1), 1) := by decide +kernel
theorem dX7_copy_20 : decode cX7_copy 20 = .ok (.ireturn, 1) := by decide +kernel
theorem dX7_copy_21 : decode cX7_copy 21 = .ok (.aload_n 0, 1) := by decide +kernel
theorem dX7_copy_22 : decode cX7_copy 22 = .ok (.getfield 13, 3) := by decide +kernel
theorem dX7_copy_25 : decode cX7_copy 25 = .ok (.iload_n 1, 1) := by decide +kernel
theorem dX7_copy_26 : decode cX7_copy 26 = .ok (.aaload, 1) := by decide +kernel
theorem dX7_copy_27 : decode cX7_copy 27 = .ok (.astore 6, 2) := by decide +kernel
theorem dX7_copy_29 : decode cX7_copy 29 = .ok (.aload_n 0, 1) := by decide +kernel
theorem dX7_copy_30 : decode cX7_copy 30 = .ok (.getfield 13, 3) := by decide +kernel
theorem dX7_copy_33 : decode cX7_copy 33 = .ok (.iload_n 3, 1) := by decide +kernel
theorem dX7_copy_34 : decode cX7_copy 34 = .ok (.aaload, 1) := by decide +kernel
theorem dX7_copy_35 : decode cX7_copy 35 = .ok (.astore 7, 2) := by decide +kernel
theorem dX7_copy_37 : decode cX7_copy 37 = .ok (.aload_n 0, 1) := by decide +kernel
theorem dX7_copy_38 : decode cX7_copy 38 = .ok (.aload 6, 2) := by decide +kernel
theorem dX7_copy_40 : decode cX7_copy 40 = .ok (.iload_n 2, 1) := by decide +kernel
theorem dX7_copy_41 : decode cX7_copy 41 = .ok (.aload 7, 2) := by decide +kernel
theorem dX7_copy_43 : decode cX7_copy 43 = .ok (.iload 4, 2) := by decide +kernel
theorem dX7_copy_45 : decode cX7_copy 45 = .ok (.iload 5, 2) := by decide +kernel
theorem dX7_copy_47 : decode cX7_copy 47 = .ok (.invokevirtual 267, 3) := by decide +kernel
theorem dX7_copy_50 : decode cX7_copy 50 = .ok (.putfield 56, 3) := by decide +kernel
theorem dX7_copy_53 : decode cX7_copy 53 = .ok (.aload_n 0, 1) := by decide +kernel
theorem dX7_copy_54 : decode cX7_copy 54 = .ok (.getfield 56, 3) := by decide +kernel
theorem dX7_copy_57 : decode cX7_copy 57 = .ok (.ifCond .eq 8, 3) := by decide +kernel
theorem dX7_copy_60 : decode cX7_copy 60 = .ok (.aload_n 0, 1) := by decide +kernel
theorem dX7_copy_61 : decode cX7_copy 61 = .ok (.invokevirtual 71, 3) := by decide +kernel
theorem dX7_copy_64 : decode cX7_copy 64 = .ok (.ireturn, 1) := by decide +kernel
theorem dX7_copy_65 : decode cX7_copy 65 = .ok (.aload 6, 2) := by decide +kernel
theorem dX7_copy_67 : decode cX7_copy 67 = .ok (.getfield 271, 3) := by decide +kernel
theorem dX7_copy_70 : decode cX7_copy 70 = .ok (.iload_n 2, 1) := by decide +kernel
theorem dX7_copy_71 : decode cX7_copy 71 = .ok (.aload 7, 2) := by decide +kernel
theorem dX7_copy_73 : decode cX7_copy 73 = .ok (.getfield 271, 3) := by decide +kernel
theorem dX7_copy_76 : decode cX7_copy 76 = .ok (.iload 4, 2) := by decide +kernel
theorem dX7_copy_78 : decode cX7_copy 78 = .ok (.iload 5, 2) := by decide +kernel
theorem dX7_copy_80 : decode cX7_copy 80 = .ok (.invokestatic 274, 3) := by decide +kernel
theorem dX7_copy_83 : decode cX7_copy 83 = .ok (.iload 5, 2) := by decide +kernel
theorem dX7_copy_85 : decode cX7_copy 85 = .ok (.ireturn, 1) := by decide +kernel
theorem dX7_tell_0 : decode cX7_tell 0 = .ok (.aload_n 0, 1) := by decide +kernel
theorem dX7_tell_1 : decode cX7_tell 1 = .ok (.getfield 21, 3) := by decide +kernel
theorem dX7_tell_4 : decode cX7_tell 4 = .ok (.iload_n 1, 1) := by decide +kernel
theorem dX7_tell_5 : decode cX7_tell 5 = .ok (.invokevirtual 98, 3) := by decide +kernel
theorem dX7_tell_8 : decode cX7_tell 8 = .ok (.ifCond .ne 5, 3) := by decide +kernel
theorem dX7_tell_11 : decode cX7_tell 11 = .ok (.iconst (-1), 1) := by decide +kernel
theorem dX7_tell_12 : decode cX7_tell 12 = .ok (.ireturn, 1) := by decide +kernel
theorem dX7_tell_13 : decode cX7_tell 13 = .ok (.aload_n 0, 1) := by decide +kernel
theorem dX7_tell_14 : decode cX7_tell 14 = .ok (.getfield 21, 3) := by decide +kernel
theorem dX7_tell_17 : decode cX7_tell 17 = .ok (.getfield 101, 3) := by decide +kernel
theorem dX7_tell_20 : decode cX7_tell 20 = .ok (.iload_n 1, 1) := by decide +kernel
theorem dX7_tell_21 : decode cX7_tell 21 = .ok (.iaload, 1) := by decide +kernel
theorem dX7_tell_22 : decode cX7_tell 22 = .ok (.lookupswitch 38 #[(0, 26), (1, 32)], 26) := by decide +kernel
theorem dX7_tell_48 : decode cX7_tell 48 = .ok (.aload_n 0, 1) := by decide +kernel
theorem dX7_tell_49 : decode cX7_tell 49 = .ok (.iload_n 1, 1) := by decide +kernel
theorem dX7_tell_50 : decode cX7_tell 50 = .ok (.invokevirtual 280, 3) := by decide +kernel
theorem dX7_tell_53 : decode cX7_tell 53 = .ok (.ireturn, 1) := by decide +kernel
theorem dX7_tell_54 : decode cX7_tell 54 = .ok (.aload_n 0, 1) := by decide +kernel
theorem dX7_tell_55 : decode cX7_tell 55 = .ok (.iload_n 1, 1) := by decide +kernel
theorem dX7_tell_56 : decode cX7_tell 56 = .ok (.invokevirtual 283, 3) := by decide +kernel
theorem dX7_tell_59 : decode cX7_tell 59 = .ok (.ireturn, 1) := by decide +kernel
theorem dX7_tell_60 : decode cX7_tell 60 = .ok (.aload_n 0, 1) := by decide +kernel
theorem dX7_tell_61 : decode cX7_tell 61 = .ok (.iload_n 1, 1) := by decide +kernel
theorem dX7_tell_62 : decode cX7_tell 62 = .ok (.invokevirtual 286, 3) := by decide +kernel
theorem dX7_tell_65 : decode cX7_tell 65 = .ok (.ireturn, 1) := by decide +kernel
theorem dX7_tellPlain_0 : decode cX7_tellPlain 0 = .ok (.aload_n 0, 1) := by decide +kernel
theorem dX7_tellPlain_1 : decode cX7_tellPlain 1 = .ok (.iconst 1, 1) := by decide +kernel
theorem dX7_tellPlain_2 : decode cX7_tellPlain 2 = .ok (.invokevirtual 289, 3) := by decide +kernel
theorem dX7_tellPlain_5 : decode cX7_tellPlain 5 = .ok (.aload_n 0, 1) := by decide +kernel
theorem dX7_tellPlain_6 : decode cX7_tellPlain 6 = .ok (.getfield 21, 3) := by decide +kernel
theorem dX7_tellPlain_9 : decode cX7_tellPlain 9 = .ok (.getfield 105, 3) := by decide +kernel
theorem dX7_tellPlain_12 : decode cX7_tellPlain 12 = .ok (.iload_n 1, 1) := by decide +kernel
theorem dX7_tellPlain_13 : decode cX7_tellPlain 13 = .ok (.iaload, 1) := by decide +kernel
theorem dX7_tellPlain_14 : decode cX7_tellPlain 14 = .ok (.ireturn, 1) := by decide +kernel
theorem dX7_tellFar_0 : decode cX7_tellFar 0 = .ok (.aload_n 0, 1) := by decide +kernel
theorem dX7_tellFar_1 : decode cX7_tellFar 1 = .ok (.iconst 2, 1) := by decide +kernel
theorem dX7_tellFar_2 : decode cX7_tellFar 2 = .ok (.invokevirtual 289, 3) := by decide +kernel
theorem dX7_tellFar_5 : decode cX7_tellFar 5 = .ok (.aload_n 0, 1) := by decide +kernel
theorem dX7_tellFar_6 : decode cX7_tellFar 6 = .ok (.iload_n 1, 1) := by decide +kernel
theorem dX7_tellFar_7 : decode cX7_tellFar 7 = .ok (.invokevirtual 280, 3) := by decide +kernel
theorem dX7_tellFar_10 : decode cX7_tellFar 10 = .ok (.bipush 100, 2) := by decide +kernel
theorem dX7_tellFar_12 : decode cX7_tellFar 12 = .ok (.iadd, 1) := by decide +kernel
theorem dX7_tellFar_13 : decode cX7_tellFar 13 = .ok (.ireturn, 1) := by decide +kernel
theorem dX7_tellMixed_0 : decode cX7_tellMixed 0 = .ok (.aload_n 0, 1) := by decide +kernel
theorem dX7_tellMixed_1 : decode cX7_tellMixed 1 = .ok (.iconst 3, 1) := by decide +kernel
theorem dX7_tellMixed_2 : decode cX7_tellMixed 2 = .ok (.invokevirtual 289, 3) := by decide +kernel
theorem dX7_tellMixed_5 : decode cX7_tellMixed 5 = .ok (.aload_n 0, 1) := by decide +kernel
theorem dX7_tellMixed_6 : decode cX7_tellMixed 6 = .ok (.iload_n 1, 1) := by decide +kernel
theorem dX7_tellMixed_7 : decode cX7_tellMixed 7 = .ok (.invokevirtual 283, 3) := by decide +kernel
theorem dX7_tellMixed_10 : decode cX7_tellMixed 10 = .ok (.istore_n 2, 1) := by decide +kernel
theorem dX7_tellMixed_11 : decode cX7_tellMixed 11 = .ok (.iload_n 2, 1) := by decide +kernel
theorem dX7_tellMixed_12 : decode cX7_tellMixed 12 = .ok (.aload_n 0, 1) := by decide +kernel
theorem dX7_tellMixed_13 : decode cX7_tellMixed 13 = .ok (.iload_n 1, 1) := by decide +kernel
theorem dX7_tellMixed_14 : decode cX7_tellMixed 14 = .ok (.invokevirtual 280, 3) := by decide +kernel
theorem dX7_tellMixed_17 : decode cX7_tellMixed 17 = .ok (.iadd, 1) := by decide +kernel
theorem dX7_tellMixed_18 : decode cX7_tellMixed 18 = .ok (.ireturn, 1) := by decide +kernel
theorem dX7_call_0 : decode cX7_call 0 = .ok (.aload_n 0, 1) := by decide +kernel
theorem dX7_call_1 : decode cX7_call 1 = .ok (.getfield 21, 3) := by decide +kernel
theorem dX7_call_4 : decode cX7_call 4 = .ok (.iload_n 1, 1) := by decide +kernel
theorem dX7_call_5 : decode cX7_call 5 = .ok (.invokevirtual 98, 3) := by decide +kernel
theorem dX7_call_8 : decode cX7_call 8 = .ok (.ifCond .ne 5, 3) := by decide +kernel
theorem dX7_call_11 : decode cX7_call 11 = .ok (.iconst (-1), 1) := by decide +kernel
theorem dX7_call_12 : decode cX7_call 12 = .ok (.ireturn, 1) := by decide +kernel
theorem dX7_call_13 : decode cX7_call 13 = .ok (.aload_n 0, 1) := by decide +kernel
theorem dX7_call_14 : decode cX7_call 14 = .ok (.getfield 21, 3) := by decide +kernel
theorem dX7_call_17 : decode cX7_call 17 = .ok (.getfield 101, 3) := by decide +kernel
theorem dX7_call_20 : decode cX7_call 20 = .ok (.iload_n 1, 1) := by decide +kernel
theorem dX7_call_21 : decode cX7_call 21 = .ok (.iaload, 1) := by decide +kernel
theorem dX7_call_22 : decode cX7_call 22 = .ok (.iconst 2, 1) := by decide +kernel
theorem dX7_call_23 : decode cX7_call 23 = .ok (.if_icmp .ne 11, 3) := by decide +kernel
theorem dX7_call_26 : decode cX7_call 26 = .ok (.aload_n 0, 1) := by decide +kernel
theorem dX7_call_27 : decode cX7_call 27 = .ok (.iconst 5, 1) := by decide +kernel
theorem dX7_call_28 : decode cX7_call 28 = .ok (.invokevirtual 289, 3) := by decide +kernel
theorem dX7_call_31 : decode cX7_call 31 = .ok (.bipush 60, 2) := by decide +kernel
theorem dX7_call_33 : decode cX7_call 33 = .ok (.ireturn, 1) := by decide +kernel
theorem dX7_call_34 : decode cX7_call 34 = .ok (.aload_n 0, 1) := by decide +kernel
theorem dX7_call_35 : decode cX7_call 35 = .ok (.iconst 4, 1) := by decide +kernel
theorem dX7_call_36 : decode cX7_call 36 = .ok (.invokevirtual 289, 3) := by decide +kernel
theorem dX7_call_39 : decode cX7_call 39 = .ok (.iload_n 1, 1) := by decide +kernel
theorem dX7_call_40 : decode cX7_call 40 = .ok (.ireturn, 1) := by decide +kernel
theorem dX7_as_0 : decode cX7_as 0 = .ok (.aload_n 0, 1) := by decide +kernel
theorem dX7_as_1 : decode cX7_as 1 = .ok (.iconst 0, 1) := by decide +kernel
theorem dX7_as_2 : decode cX7_as 2 = .ok (.putfield 56, 3) := by decide +kernel
theorem dX7_as_5 : decode cX7_as 5 = .ok (.aload_n 0, 1) := by decide +kernel
theorem dX7_as_6 : decode cX7_as 6 = .ok (.getfield 21, 3) := by decide +kernel
theorem dX7_as_9 : decode cX7_as 9 = .ok (.iload_n 1, 1) := by decide +kernel
theorem dX7_as_10 : decode cX7_as 10 = .ok (.invokevirtual 98, 3) := by decide +kernel
theorem dX7_as_13 : decode cX7_as 13 = .ok (.ifCond .ne 5, 3) := by decide +kernel
theorem dX7_as_16 : decode cX7_as 16 = .ok (.iconst (-1), 1) := by decide +kernel
theorem dX7_as_17 : decode cX7_as 17 = .ok (.ireturn, 1) := by decide +kernel
theorem dX7_as_18 : decode cX7_as 18 = .ok (.iload_n 2, 1) := by decide +kernel
theorem dX7_as_19 : decode cX7_as 19 = .ok (.ifCond .lt 8, 3) := by decide +kernel
theorem dX7_as_22 : decode cX7_as 22 = .ok (.iload_n 2, 1) := by decide +kernel
theorem dX7_as_23 : decode cX7_as 23 = .ok (.iconst 2, 1) := by decide +kernel
theorem dX7_as_24 : decode cX7_as 24 = .ok (.if_icmp .le 6, 3) := by decide +kernel
theorem dX7_as_27 : decode cX7_as 27 = .ok (.bipush (-2), 2) := by decide +kernel
theorem dX7_as_29 : decode cX7_as 29 = .ok (.ireturn, 1) := by decide +kernel
theorem dX7_as_30 : decode cX7_as 30 = .ok (.aload_n 0, 1) := by decide +kernel
theorem dX7_as_31 : decode cX7_as 31 = .ok (.getfield 21, 3) := by decide +kernel
theorem dX7_as_34 : decode cX7_as 34 = .ok (.getfield 101, 3) := by decide +kernel
theorem dX7_as_37 : decode cX7_as 37 = .ok (.iload_n 1, 1) := by decide +kernel
theorem dX7_as_38 : decode cX7_as 38 = .ok (.iaload, 1) := by decide +kernel
theorem dX7_as_39 : decode cX7_as 39 = .ok (.iload_n 2, 1) := by decide +kernel
theorem dX7_as_40 : decode cX7_as 40 = .ok (.if_icmp .ge 13, 3) := by decide +kernel
theorem dX7_as_43 : decode cX7_as 43 = .ok (.aload_n 0, 1) := by decide +kernel
theorem dX7_as_44 : decode cX7_as 44 = .ok (.iconst 2, 1) := by decide +kernel
theorem dX7_as_45 : decode cX7_as 45 = .ok (.putfield 56, 3) := by decide +kernel
theorem dX7_as_48 : decode cX7_as 48 = .ok (.aload_n 0, 1) := by decide +kernel
theorem dX7_as_49 : decode cX7_as 49 = .ok (.invokevirtual 71, 3) := by decide +kernel
theorem dX7_as_52 : decode cX7_as 52 = .ok (.ireturn, 1) := by decide +kernel
theorem dX7_as_53 : decode cX7_as 53 = .ok (.iconst 1, 1) := by decide +kernel
theorem dX7_as_54 : decode cX7_as 54 = .ok (.ireturn, 1) := by decide +kernel
theorem dX7_trace_0 : decode cX7_trace 0 = .ok (.aload_n 0, 1) := by decide +kernel
theorem dX7_trace_1 : decode cX7_trace 1 = .ok (.getfield 292, 3) := by decide +kernel
theorem dX7_trace_4 : decode cX7_trace 4 = .ok (.ireturn, 1) := by decide +kernel
theorem dX7_fault_0 : decode cX7_fault 0 = .ok (.aload_n 0, 1) := by decide +kernel
theorem dX7_fault_1 : decode cX7_fault 1 = .ok (.getfield 56, 3) := by decide +kernel
theorem dX7_fault_4 : decode cX7_fault 4 = .ok (.ireturn, 1) := by decide +kernel
theorem dX7_many_0 : decode cX7_many 0 = .ok (.iload_n 1, 1) := by decide +kernel
theorem dX7_many_1 : decode cX7_many 1 = .ok (.tableswitch 72 0 4 #[35, 43, 51, 56, 64], 35) := by decide +kernel
theorem dX7_many_36 : decode cX7_many 36 = .ok (.aload_n 0, 1) := by decide +kernel
theorem dX7_many_37 : decode cX7_many 37 = .ok (.getfield 21, 3) := by decide +kernel
theorem dX7_many_40 : decode cX7_many 40 = .ok (.getfield 95, 3) := by decide +kernel
theorem dX7_many_43 : decode cX7_many 43 = .ok (.ireturn, 1) := by decide +kernel
theorem dX7_many_44 : decode cX7_many 44 = .ok (.aload_n 0, 1) := by decide +kernel
theorem dX7_many_45 : decode cX7_many 45 = .ok (.getfield 21, 3) := by decide +kernel
theorem dX7_many_48 : decode cX7_many 48 = .ok (.getfield 232, 3) := by decide +kernel
theorem dX7_many_51 : decode cX7_many 51 = .ok (.ireturn, 1) := by decide +kernel
theorem dX7_many_52 : decode cX7_many 52 = .ok (.aload_n 0, 1) := by decide +kernel
theorem dX7_many_53 : decode cX7_many 53 = .ok (.getfield 85, 3) := by decide +kernel
theorem dX7_many_56 : decode cX7_many 56 = .ok (.ireturn, 1) := by decide +kernel
theorem dX7_many_57 : decode cX7_many 57 = .ok (.aload_n 0, 1) := by decide +kernel
theorem dX7_many_58 : decode cX7_many 58 = .ok (.getfield 21, 3) := by decide +kernel
theorem dX7_many_61 : decode cX7_many 61 = .ok (.invokevirtual 123, 3) := by decide +kernel
theorem dX7_many_64 : decode cX7_many 64 = .ok (.ireturn, 1) := by decide +kernel
theorem dX7_many_65 : decode cX7_many 65 = .ok (.aload_n 0, 1) := by decide +kernel
theorem dX7_many_66 : decode cX7_many 66 = .ok (.getfield 45, 3) := by decide +kernel
theorem dX7_many_69 : decode cX7_many 69 = .ok (.getfield 88, 3) := by decide +kernel
theorem dX7_many_72 : decode cX7_many 72 = .ok (.ireturn, 1) := by decide +kernel
theorem dX7_many_73 : decode cX7_many 73 = .ok (.bipush (-2), 2) := by decide +kernel
theorem dX7_many_75 : decode cX7_many 75 = .ok (.ireturn, 1) := by decide +kernel
theorem dX7_leave_0 : decode cX7_leave 0 = .ok (.aload_n 0, 1) := by decide +kernel
theorem dX7_leave_1 : decode cX7_leave 1 = .ok (.bipush 31, 2) := by decide +kernel
theorem dX7_leave_3 : decode cX7_leave 3 = .ok (.aload_n 0, 1) := by decide +kernel
theorem dX7_leave_4 : decode cX7_leave 4 = .ok (.getfield 292, 3) := by decide +kernel
theorem dX7_leave_7 : decode cX7_leave 7 = .ok (.imul, 1) := by decide +kernel
theorem dX7_leave_8 : decode cX7_leave 8 = .ok (.iload_n 1, 1) := by decide +kernel
theorem dX7_leave_9 : decode cX7_leave 9 = .ok (.iadd, 1) := by decide +kernel
theorem dX7_leave_10 : decode cX7_leave 10 = .ok (.putfield 292, 3) := by decide +kernel
theorem dX7_leave_13 : decode cX7_leave 13 = .ok (.return_, 1) := by decide +kernel
theorem dX7_answerOfFault_0 : decode cX7_answerOfFault 0 = .ok (.bipush (-10), 2) := by decide +kernel
theorem dX7_answerOfFault_2 : decode cX7_answerOfFault 2 = .ok (.aload_n 0, 1) := by decide +kernel
theorem dX7_answerOfFault_3 : decode cX7_answerOfFault 3 = .ok (.getfield 56, 3) := by decide +kernel
theorem dX7_answerOfFault_6 : decode cX7_answerOfFault 6 = .ok (.isub, 1) := by decide +kernel
theorem dX7_answerOfFault_7 : decode cX7_answerOfFault 7 = .ok (.ireturn, 1) := by decide +kernel
theorem dX7_isSheet_0 : decode cX7_isSheet 0 = .ok (.iload_n 0, 1) := by decide +kernel
theorem dX7_isSheet_1 : decode cX7_isSheet 1 = .ok (.ifCond .lt 12, 3) := by decide +kernel
theorem dX7_isSheet_4 : decode cX7_isSheet 4 = .ok (.iload_n 0, 1) := by decide +kernel
theorem dX7_isSheet_5 : decode cX7_isSheet 5 = .ok (.iconst 4, 1) := by decide +kernel
theorem dX7_isSheet_6 : decode cX7_isSheet 6 = .ok (.if_icmp .ge 7, 3) := by decide +kernel
theorem dX7_isSheet_9 : decode cX7_isSheet 9 = .ok (.iconst 1, 1) := by decide +kernel
theorem dX7_isSheet_10 : decode cX7_isSheet 10 = .ok (.goto 4, 3) := by decide +kernel
theorem dX7_isSheet_13 : decode cX7_isSheet 13 = .ok (.iconst 0, 1) := by decide +kernel
theorem dX7_isSheet_14 : decode cX7_isSheet 14 = .ok (.ireturn, 1) := by decide +kernel
theorem dX7_isLane_0 : decode cX7_isLane 0 = .ok (.iload_n 0, 1) := by decide +kernel
theorem dX7_isLane_1 : decode cX7_isLane 1 = .ok (.ifCond .lt 12, 3) := by decide +kernel
theorem dX7_isLane_4 : decode cX7_isLane 4 = .ok (.iload_n 0, 1) := by decide +kernel
theorem dX7_isLane_5 : decode cX7_isLane 5 = .ok (.iconst 3, 1) := by decide +kernel
theorem dX7_isLane_6 : decode cX7_isLane 6 = .ok (.if_icmp .ge 7, 3) := by decide +kernel
theorem dX7_isLane_9 : decode cX7_isLane 9 = .ok (.iconst 1, 1) := by decide +kernel
theorem dX7_isLane_10 : decode cX7_isLane 10 = .ok (.goto 4, 3) := by decide +kernel
theorem dX7_isLane_13 : decode cX7_isLane 13 = .ok (.iconst 0, 1) := by decide +kernel
theorem dX7_isLane_14 : decode cX7_isLane 14 = .ok (.ireturn, 1) := by decide +kernel
theorem dX7_isOfDay_0 : decode cX7_isOfDay 0 = .ok (.iload_n 0, 1) := by decide +kernel
theorem dX7_isOfDay_1 : decode cX7_isOfDay 1 = .ok (.ifCond .lt 8, 3) := by decide +kernel
theorem dX7_isOfDay_4 : decode cX7_isOfDay 4 = .ok (.iload_n 0, 1) := by decide +kernel
theorem dX7_isOfDay_5 : decode cX7_isOfDay 5 = .ok (.iconst 4, 1) := by decide +kernel
theorem dX7_isOfDay_6 : decode cX7_isOfDay 6 = .ok (.if_icmp .le 15, 3) := by decide +kernel
theorem dX7_isOfDay_9 : decode cX7_isOfDay 9 = .ok (.iload_n 0, 1) := by decide +kernel
theorem dX7_isOfDay_10 : decode cX7_isOfDay 10 = .ok (.bipush 10, 2) := by decide +kernel
theorem dX7_isOfDay_12 : decode cX7_isOfDay 12 = .ok (.if_icmp .lt 13, 3) := by decide +kernel
theorem dX7_isOfDay_15 : decode cX7_isOfDay 15 = .ok (.iload_n 0, 1) := by decide +kernel
theorem dX7_isOfDay_16 : decode cX7_isOfDay 16 = .ok (.bipush 15, 2) := by decide +kernel
theorem dX7_isOfDay_18 : decode cX7_isOfDay 18 = .ok (.if_icmp .ge 7, 3) := by decide +kernel
theorem dX7_isOfDay_21 : decode cX7_isOfDay 21 = .ok (.iconst 1, 1) := by decide +kernel
theorem dX7_isOfDay_22 : decode cX7_isOfDay 22 = .ok (.goto 4, 3) := by decide +kernel
theorem dX7_isOfDay_25 : decode cX7_isOfDay 25 = .ok (.iconst 0, 1) := by decide +kernel
theorem dX7_isOfDay_26 : decode cX7_isOfDay 26 = .ok (.ireturn, 1) := by decide +kernel
theorem dX7_isReadable_0 : decode cX7_isReadable 0 = .ok (.iload_n 0, 1) := by decide +kernel
theorem dX7_isReadable_1 : decode cX7_isReadable 1 = .ok (.ifCond .lt 23, 3) := by decide +kernel
theorem dX7_isReadable_4 : decode cX7_isReadable 4 = .ok (.iload_n 0, 1) := by decide +kernel
theorem dX7_isReadable_5 : decode cX7_isReadable 5 = .ok (.bipush 99, 2) := by decide +kernel
theorem dX7_isReadable_7 : decode cX7_isReadable 7 = .ok (.if_icmp .gt 17, 3) := by decide +kernel
theorem dX7_isReadable_10 : decode cX7_isReadable 10 = .ok (.iload_n 1, 1) := by decide +kernel
theorem dX7_isReadable_11 : decode cX7_isReadable 11 = .ok (.ifCond .lt 13, 3) := by decide +kernel
theorem dX7_isReadable_14 : decode cX7_isReadable 14 = .ok (.iload_n 1, 1) := by decide +kernel
theorem dX7_isReadable_15 : decode cX7_isReadable 15 = .ok (.bipush 6, 2) := by decide +kernel
theorem dX7_isReadable_17 : decode cX7_isReadable 17 = .ok (.if_icmp .ge 7, 3) := by decide +kernel
theorem dX7_isReadable_20 : decode cX7_isReadable 20 = .ok (.iconst 1, 1) := by decide +kernel
theorem dX7_isReadable_21 : decode cX7_isReadable 21 = .ok (.goto 4, 3) := by decide +kernel
theorem dX7_isReadable_24 : decode cX7_isReadable 24 = .ok (.iconst 0, 1) := by decide +kernel
theorem dX7_isReadable_25 : decode cX7_isReadable 25 = .ok (.ireturn, 1) := by decide +kernel
theorem dX7_commonDivisor_0 : decode cX7_commonDivisor 0 = .ok (.iload_n 0, 1) := by decide +kernel
theorem dX7_commonDivisor_1 : decode cX7_commonDivisor 1 = .ok (.istore_n 2, 1) := by decide +kernel
theorem dX7_commonDivisor_2 : decode cX7_commonDivisor 2 = .ok (.iload_n 1, 1) := by decide +kernel
theorem dX7_commonDivisor_3 : decode cX7_commonDivisor 3 = .ok (.istore_n 3, 1) := by decide +kernel
theorem dX7_commonDivisor_4 : decode cX7_commonDivisor 4 = .ok (.iconst 0, 1) := by decide +kernel
theorem dX7_commonDivisor_5 : decode cX7_commonDivisor 5 = .ok (.istore 4, 2) := by decide +kernel
theorem dX7_commonDivisor_7 : decode cX7_commonDivisor 7 = .ok (.iload 4, 2) := by decide +kernel
theorem dX7_commonDivisor_9 : decode cX7_commonDivisor 9 = .ok (.bipush 100, 2) := by decide +kernel
theorem dX7_commonDivisor_11 : decode cX7_commonDivisor 11 = .ok (.if_icmp .ge 23, 3) := by decide +kernel
theorem dX7_commonDivisor_14 : decode cX7_commonDivisor 14 = .ok (.iload_n 3, 1) := by decide +kernel
theorem dX7_commonDivisor_15 : decode cX7_commonDivisor 15 = .ok (.ifCond .eq 19, 3) := by decide +kernel
theorem dX7_commonDivisor_18 : decode cX7_commonDivisor 18 = .ok (.iload_n 2, 1) := by decide +kernel
theorem dX7_commonDivisor_19 : decode cX7_commonDivisor 19 = .ok (.iload_n 3, 1) := by decide +kernel
theorem dX7_commonDivisor_20 : decode cX7_commonDivisor 20 = .ok (.irem, 1) := by decide +kernel
theorem dX7_commonDivisor_21 : decode cX7_commonDivisor 21 = .ok (.istore 5, 2) := by decide +kernel
theorem dX7_commonDivisor_23 : decode cX7_commonDivisor 23 = .ok (.iload_n 3, 1) := by decide +kernel
theorem dX7_commonDivisor_24 : decode cX7_commonDivisor 24 = .ok (.istore_n 2, 1) := by decide +kernel
theorem dX7_commonDivisor_25 : decode cX7_commonDivisor 25 = .ok (.iload 5, 2) := by decide +kernel
theorem dX7_commonDivisor_27 : decode cX7_commonDivisor 27 = .ok (.istore_n 3, 1) := by decide +kernel
theorem dX7_commonDivisor_28 : decode cX7_commonDivisor 28 = .ok (.iinc 4 1, 3) := by decide +kernel
theorem dX7_commonDivisor_31 : decode cX7_commonDivisor 31 = .ok (.goto (-24), 3) := by decide +kernel
theorem dX7_commonDivisor_34 : decode cX7_commonDivisor 34 = .ok (.iload_n 2, 1) := by decide +kernel
theorem dX7_commonDivisor_35 : decode cX7_commonDivisor 35 = .ok (.ireturn, 1) := by decide +kernel
theorem dX8_init_0 : decode cX8_init 0 = .ok (.aload_n 0, 1) := by decide +kernel
theorem dX8_init_1 : decode cX8_init 1 = .ok (.invokespecial 1, 3) := by decide +kernel
theorem dX8_init_4 : decode cX8_init 4 = .ok (.aload_n 0, 1) := by decide +kernel
theorem dX8_init_5 : decode cX8_init 5 = .ok (.iconst 5, 1) := by decide +kernel
theorem dX8_init_6 : decode cX8_init 6 = .ok (.newarray .int, 2) := by decide +kernel
theorem dX8_init_8 : decode cX8_init 8 = .ok (.putfield 7, 3) := by decide +kernel
theorem dX8_init_11 : decode cX8_init 11 = .ok (.aload_n 0, 1) := by decide +kernel
theorem dX8_init_12 : decode cX8_init 12 = .ok (.iconst 5, 1) := by decide +kernel
theorem dX8_init_13 : decode cX8_init 13 = .ok (.newarray .int, 2) := by decide +kernel
theorem dX8_init_15 : decode cX8_init 15 = .ok (.putfield 13, 3) := by decide +kernel
theorem dX8_init_18 : decode cX8_init 18 = .ok (.aload_n 0, 1) := by decide +kernel
theorem dX8_init_19 : decode cX8_init 19 = .ok (.iconst 5, 1) := by decide +kernel
theorem dX8_init_20 : decode cX8_init 20 = .ok (.newarray .int, 2) := by decide +kernel
theorem dX8_init_22 : decode cX8_init 22 = .ok (.putfield 16, 3) := by decide +kernel
theorem dX8_init_25 : decode cX8_init 25 = .ok (.aload_n 0, 1) := by decide +kernel
theorem dX8_init_26 : decode cX8_init 26 = .ok (.iconst 5, 1) := by decide +kernel
theorem dX8_init_27 : decode cX8_init 27 = .ok (.newarray .int, 2) := by decide +kernel
theorem dX8_init_29 : decode cX8_init 29 = .ok (.putfield 19, 3) := by decide +kernel
theorem dX8_init_32 : decode cX8_init 32 = .ok (.aload_n 0, 1) := by decide +kernel
theorem dX8_init_33 : decode cX8_init 33 = .ok (.iconst 5, 1) := by decide +kernel
theorem dX8_init_34 : decode cX8_init 34 = .ok (.newarray .int, 2) := by decide +kernel
theorem dX8_init_36 : decode cX8_init 36 = .ok (.putfield 22, 3) := by decide +kernel
theorem dX8_init_39 : decode cX8_init 39 = .ok (.aload_n 0, 1) := by decide +kernel
theorem dX8_init_40 : decode cX8_init 40 = .ok (.iconst 5, 1) := by decide +kernel
theorem dX8_init_41 : decode cX8_init 41 = .ok (.newarray .int, 2) := by decide +kernel
theorem dX8_init_43 : decode cX8_init 43 = .ok (.putfield 25, 3) := by decide +kernel
theorem dX8_init_46 : decode cX8_init 46 = .ok (.aload_n 0, 1) := by decide +kernel
theorem dX8_init_47 : decode cX8_init 47 = .ok (.sipush 7776, 3) := by decide +kernel
theorem dX8_init_50 : decode cX8_init 50 = .ok (.newarray .int, 2) := by decide +kernel
theorem dX8_init_52 : decode cX8_init 52 = .ok (.putfield 28, 3) := by decide +kernel
theorem dX8_init_55 : decode cX8_init 55 = .ok (.aload_n 0, 1) := by decide +kernel
theorem dX8_init_56 : decode cX8_init 56 = .ok (.sipush 7776, 3) := by decide +kernel
theorem dX8_init_59 : decode cX8_init 59 = .ok (.newarray .int, 2) := by decide +kernel
theorem dX8_init_61 : decode cX8_init 61 = .ok (.putfield 31, 3) := by decide +kernel
theorem dX8_init_64 : decode cX8_init 64 = .ok (.aload_n 0, 1) := by decide +kernel
theorem dX8_init_65 : decode cX8_init 65 = .ok (.sipush 7776, 3) := by decide +kernel
theorem dX8_init_68 : decode cX8_init 68 = .ok (.newarray .int, 2) := by decide +kernel
theorem dX8_init_70 : decode cX8_init 70 = .ok (.putfield 34, 3) := by decide +kernel
theorem dX8_init_73 : decode cX8_init 73 = .ok (.aload_n 0, 1) := by decide +kernel
theorem dX8_init_74 : decode cX8_init 74 = .ok (.sipush 7776, 3) := by decide +kernel
theorem dX8_init_77 : decode cX8_init 77 = .ok (.newarray .int, 2) := by decide +kernel
theorem dX8_init_79 : decode cX8_init 79 = .ok (.putfield 37, 3) := by decide +kernel
theorem dX8_init_82 : decode cX8_init 82 = .ok (.aload_n 0, 1) := by decide +kernel
theorem dX8_init_83 : decode cX8_init 83 = .ok (.sipush 7776, 3) := by decide +kernel
theorem dX8_init_86 : decode cX8_init 86 = .ok (.newarray .int, 2) := by decide +kernel
theorem dX8_init_88 : decode cX8_init 88 = .ok (.putfield 40, 3) := by decide +kernel
theorem dX8_init_91 : decode cX8_init 91 = .ok (.aload_n 0, 1) := by decide +kernel
theorem dX8_init_92 : decode cX8_init 92 = .ok (.iconst 5, 1) := by decide +kernel
theorem dX8_init_93 : decode cX8_init 93 = .ok (.newarray .int, 2) := by decide +kernel
theorem dX8_init_95 : decode cX8_init 95 = .ok (.putfield 43, 3) := by decide +kernel
theorem dX8_init_98 : decode cX8_init 98 = .ok (.aload_n 0, 1) := by decide +kernel
theorem dX8_init_99 : decode cX8_init 99 = .ok (.bipush 8, 2) := by decide +kernel
theorem dX8_init_101 : decode cX8_init 101 = .ok (.newarray .int, 2) := by decide +kernel
theorem dX8_init_103 : decode cX8_init 103 = .ok (.putfield 46, 3) := by decide +kernel
theorem dX8_init_106 : decode cX8_init 106 = .ok (.aload_n 0, 1) := by decide +kernel
theorem dX8_init_107 : decode cX8_init 107 = .ok (.bipush 8, 2) := by decide +kernel
theorem dX8_init_109 : decode cX8_init 109 = .ok (.newarray .int, 2) := by decide +kernel
theorem dX8_init_111 : decode cX8_init 111 = .ok (.putfield 49, 3) := by decide +kernel
theorem dX8_init_114 : decode cX8_init 114 = .ok (.aload_n 0, 1) := by decide +kernel
theorem dX8_init_115 : decode cX8_init 115 = .ok (.bipush 8, 2) := by decide +kernel
theorem dX8_init_117 : decode cX8_init 117 = .ok (.newarray .int, 2) := by decide +kernel
theorem dX8_init_119 : decode cX8_init 119 = .ok (.putfield 52, 3) := by decide +kernel
theorem dX8_init_122 : decode cX8_init 122 = .ok (.aload_n 0, 1) := by decide +kernel
theorem dX8_init_123 : decode cX8_init 123 = .ok (.iconst 4, 1) := by decide +kernel
theorem dX8_init_124 : decode cX8_init 124 = .ok (.newarray .int, 2) := by decide +kernel
theorem dX8_init_126 : decode cX8_init 126 = .ok (.putfield 55, 3) := by decide +kernel
theorem dX8_init_129 : decode cX8_init 129 = .ok (.aload_n 0, 1) := by decide +kernel
theorem dX8_init_130 : decode cX8_init 130 = .ok (.iconst 4, 1) := by decide +kernel
theorem dX8_init_131 : decode cX8_init 131 = .ok (.newarray .int, 2) := by decide +kernel
theorem dX8_init_133 : decode cX8_init 133 = .ok (.putfield 58, 3) := by decide +kernel
theorem dX8_init_136 : decode cX8_init 136 = .ok (.aload_n 0, 1) := by decide +kernel
theorem dX8_init_137 : decode cX8_init 137 = .ok (.sipush 240, 3) := by decide +kernel
theorem dX8_init_140 : decode cX8_init 140 = .ok (.newarray .int, 2) := by decide +kernel
theorem dX8_init_142 : decode cX8_init 142 = .ok (.putfield 61, 3) := by decide +kernel
theorem dX8_init_145 : decode cX8_init 145 = .ok (.aload_n 0, 1) := by decide +kernel
theorem dX8_init_146 : decode cX8_init 146 = .ok (.bipush 60, 2) := by decide +kernel
theorem dX8_init_148 : decode cX8_init 148 = .ok (.newarray .int, 2) := by decide +kernel
theorem dX8_init_150 : decode cX8_init 150 = .ok (.putfield 64, 3) := by decide +kernel
theorem dX8_init_153 : decode cX8_init 153 = .ok (.iconst 0, 1) := by decide +kernel
theorem dX8_init_154 : decode cX8_init 154 = .ok (.istore_n 1, 1) := by decide +kernel
theorem dX8_init_155 : decode cX8_init 155 = .ok (.iload_n 1, 1) := by decide +kernel
theorem dX8_init_156 : decode cX8_init 156 = .ok (.iconst 4, 1) := by decide +kernel
theorem dX8_init_157 : decode cX8_init 157 = .ok (.if_icmp .ge 16, 3) := by decide +kernel
theorem dX8_init_160 : decode cX8_init 160 = .ok (.aload_n 0, 1) := by decide +kernel
theorem dX8_init_161 : decode cX8_init 161 = .ok (.getfield 55, 3) := by decide +kernel
theorem dX8_init_164 : decode cX8_init 164 = .ok (.iload_n 1, 1) := by decide +kernel
theorem dX8_init_165 : decode cX8_init 165 = .ok (.iconst (-1), 1) := by decide +kernel
theorem dX8_init_166 : decode cX8_init 166 = .ok (.iastore, 1) := by decide +kernel
theorem dX8_init_167 : decode cX8_init 167 = .ok (.iinc 1 1, 3) := by decide +kernel
theorem dX8_init_170 : decode cX8_init 170 = .ok (.goto (-15), 3) := by decide +kernel
theorem dX8_init_173 : decode cX8_init 173 = .ok (.return_, 1) := by decide +kernel
theorem dX8_in_0 : decode cX8_in 0 = .ok (.lload_n 0, 1) := by decide +kernel
theorem dX8_in_1 : decode cX8_in 1 = .ok (.lload_n 2, 1) := by decide +kernel
theorem dX8_in_2 : decode cX8_in 2 = .ok (.lcmp, 1) := by decide +kernel
theorem dX8_in_3 : decode cX8_in 3 = .ok (.ifCond .lt 14, 3) := by decide +kernel
theorem dX8_in_6 : decode cX8_in 6 = .ok (.lload_n 0, 1) := by decide +kernel
theorem dX8_in_7 : decode cX8_in 7 = .ok (.lload 4, 2) := by decide +kernel
theorem dX8_in_9 : decode cX8_in 9 = .ok (.lcmp, 1) := by decide +kernel
theorem dX8_in_10 : decode cX8_in 10 = .ok (.ifCond .gt 7, 3) := by decide +kernel
theorem dX8_in_13 : decode cX8_in 13 = .ok (.iconst 1, 1) := by decide +kernel
theorem dX8_in_14 : decode cX8_in 14 = .ok (.goto 4, 3) := by decide +kernel
theorem dX8_in_17 : decode cX8_in 17 = .ok (.iconst 0, 1) := by decide +kernel
theorem dX8_in_18 : decode cX8_in 18 = .ok (.ireturn, 1) := by decide +kernel
theorem dX8_lost_0 : decode cX8_lost 0 = .ok (.ldc2_w 67, 3) := by decide +kernel
theorem dX8_lost_3 : decode cX8_lost 3 = .ok (.lreturn, 1) := by decide +kernel
theorem dX8_bits_0 : decode cX8_bits 0 = .ok (.iconst 0, 1) := by decide +kernel
theorem dX8_bits_1 : decode cX8_bits 1 = .ok (.istore_n 1, 1) := by decide +kernel
theorem dX8_bits_2 : decode cX8_bits 2 = .ok (.iload_n 0, 1) := by decide +kernel
theorem dX8_bits_3 : decode cX8_bits 3 = .ok (.istore_n 2, 1) := by decide +kernel
theorem dX8_bits_4 : decode cX8_bits 4 = .ok (.iload_n 2, 1) := by decide +kernel
theorem dX8_bits_5 : decode cX8_bits 5 = .ok (.ifCond .le 16, 3) := by decide +kernel
theorem dX8_bits_8 : decode cX8_bits 8 = .ok (.iload_n 1, 1) := by decide +kernel
theorem dX8_bits_9 : decode cX8_bits 9 = .ok (.iload_n 2, 1) := by decide +kernel
theorem dX8_bits_10 : decode cX8_bits 10 = .ok (.iconst 1, 1) := by decide +kernel
theorem dX8_bits_11 : decode cX8_bits 11 = .ok (.iand, 1) := by decide +kernel
theorem dX8_bits_12 : decode cX8_bits 12 = .ok (.iadd, 1) := by decide +kernel
theorem dX8_bits_13 : decode cX8_bits 13 = .ok (.istore_n 1, 1) := by decide +kernel
theorem dX8_bits_14 : decode cX8_bits 14 = .ok (.iload_n 2, 1) := by decide +kernel
theorem dX8_bits_15 : decode cX8_bits 15 = .ok (.iconst 1, 1) := by decide +kernel
theorem dX8_bits_16 : decode cX8_bits 16 = .ok (.ishr, 1) := by decide +kernel
theorem dX8_bits_17 : decode cX8_bits 17 = .ok (.istore_n 2, 1) := by decide +kernel
theorem dX8_bits_18 : decode cX8_bits 18 = .ok (.goto (-14), 3) := by decide +kernel
theorem dX8_bits_21 : decode cX8_bits 21 = .ok (.iload_n 1, 1) := by decide +kernel
theorem dX8_bits_22 : decode cX8_bits 22 = .ok (.ireturn, 1) := by decide +kernel
theorem dX8_share_0 : decode cX8_share 0 = .ok (.lload_n 0, 1) := by decide +kernel
theorem dX8_share_1 : decode cX8_share 1 = .ok (.lstore 5, 2) := by decide +kernel
theorem dX8_share_3 : decode cX8_share 3 = .ok (.lload_n 2, 1) := by decide +kernel
theorem dX8_share_4 : decode cX8_share 4 = .ok (.lstore 7, 2) := by decide +kernel
theorem dX8_share_6 : decode cX8_share 6 = .ok (.lload 7, 2) := by decide +kernel
theorem dX8_share_8 : decode cX8_share 8 = .ok (.lconst 0, 1) := by decide +kernel
theorem dX8_share_9 : decode cX8_share 9 = .ok (.lcmp, 1) := by decide +kernel
theorem dX8_share_10 : decode cX8_share 10 = .ok (.ifCond .eq 21, 3) := by decide +kernel
theorem dX8_share_13 : decode cX8_share 13 = .ok (.lload 5, 2) := by decide +kernel
theorem dX8_share_15 : decode cX8_share 15 = .ok (.lload 7, 2) := by decide +kernel
theorem dX8_share_17 : decode cX8_share 17 = .ok (.lrem, 1) := by decide +kernel
theorem dX8_share_18 : decode cX8_share 18 = .ok (.lstore 9, 2) := by decide +kernel
theorem dX8_share_20 : decode cX8_share 20 = .ok (.lload 7, 2) := by decide +kernel
theorem dX8_share_22 : decode cX8_share 22 = .ok (.lstore 5, 2) := by decide +kernel
theorem dX8_share_24 : decode cX8_share 24 = .ok (.lload 9, 2) := by decide +kernel
theorem dX8_share_26 : decode cX8_share 26 = .ok (.lstore 7, 2) := by decide +kernel
theorem dX8_share_28 : decode cX8_share 28 = .ok (.goto (-22), 3) := by decide +kernel
theorem dX8_share_31 : decode cX8_share 31 = .ok (.iload 4, 2) := by decide +kernel
theorem dX8_share_33 : decode cX8_share 33 = .ok (.ifCond .ne 7, 3) := by decide +kernel
theorem dX8_share_36 : decode cX8_share 36 = .ok (.lload_n 0, 1) := by decide +kernel
theorem dX8_share_37 : decode cX8_share 37 = .ok (.goto 4, 3) := by decide +kernel
theorem dX8_share_40 : decode cX8_share 40 = .ok (.lload_n 2, 1) := by decide +kernel
theorem dX8_share_41 : decode cX8_share 41 = .ok (.lload 5, 2) := by decide +kernel
theorem dX8_share_43 : decode cX8_share 43 = .ok (.ldiv, 1) := by decide +kernel
theorem dX8_share_44 : decode cX8_share 44 = .ok (.lreturn, 1) := by decide +kernel
theorem dX8_refused_0 : decode cX8_refused 0 = .ok (.aload_n 0, 1) := by decide +kernel
theorem dX8_refused_1 : decode cX8_refused 1 = .ok (.iconst 0, 1) := by decide +kernel
theorem dX8_refused_2 : decode cX8_refused 2 = .ok (.putfield 69, 3) := by decide +kernel
theorem dX8_refused_5 : decode cX8_refused 5 = .ok (.iload_n 1, 1) := by decide +kernel
theorem dX8_refused_6 : decode cX8_refused 6 = .ok (.ireturn, 1) := by decide +kernel
theorem dX8_failed_0 : decode cX8_failed 0 = .ok (.aload_n 0, 1) := by decide +kernel
theorem dX8_failed_1 : decode cX8_failed 1 = .ok (.iload_n 1, 1) := by decide +kernel
theorem dX8_failed_2 : decode cX8_failed 2 = .ok (.putfield 69, 3) := by decide +kernel
theorem dX8_failed_5 : decode cX8_failed 5 = .ok (.bipush (-10), 2) := by decide +kernel
theorem dX8_failed_7 : decode cX8_failed 7 = .ok (.iload_n 1, 1) := by decide +kernel
theorem dX8_failed_8 : decode cX8_failed 8 = .ok (.isub, 1) := by decide +kernel
theorem dX8_failed_9 : decode cX8_failed 9 = .ok (.ireturn, 1) := by decide +kernel
theorem dX8_failedLong_0 : decode cX8_failedLong 0 = .ok (.aload_n 0, 1) := by decide +kernel
theorem dX8_failedLong_1 : decode cX8_failedLong 1 = .ok (.iload_n 1, 1) := by decide +kernel
theorem dX8_failedLong_2 : decode cX8_failedLong 2 = .ok (.putfield 69, 3) := by decide +kernel
theorem dX8_failedLong_5 : decode cX8_failedLong 5 = .ok (.invokestatic 73, 3) := by decide +kernel
theorem dX8_failedLong_8 : decode cX8_failedLong 8 = .ok (.lreturn, 1) := by decide +kernel
theorem dX8_noPlace_0 : decode cX8_noPlace 0 = .ok (.iload_n 1, 1) := by decide +kernel
theorem dX8_noPlace_1 : decode cX8_noPlace 1 = .ok (.i2l, 1) := by decide +kernel
theorem dX8_noPlace_2 : decode cX8_noPlace 2 = .ok (.lconst 0, 1) := by decide +kernel
theorem dX8_noPlace_3 : decode cX8_noPlace 3 = .ok (.aload_n 0, 1) := by decide +kernel
theorem dX8_noPlace_4 : decode cX8_noPlace 4 = .ok (.getfield 77, 3) := by decide +kernel
theorem dX8_noPlace_7 : decode cX8_noPlace 7 = .ok (.i2l, 1) := by decide +kernel
theorem dX8_noPlace_8 : decode cX8_noPlace 8 = .ok (.lconst 1, 1) := by decide +kernel
theorem dX8_noPlace_9 : decode cX8_noPlace 9 = .ok (.lsub, 1) := by decide +kernel
theorem dX8_noPlace_10 : decode cX8_noPlace 10 = .ok (.invokestatic 80, 3) := by decide +kernel
theorem dX8_noPlace_13 : decode cX8_noPlace 13 = .ok (.ifCond .ne 7, 3) := by decide +kernel
theorem dX8_noPlace_16 : decode cX8_noPlace 16 = .ok (.iconst 1, 1) := by decide +kernel
theorem dX8_noPlace_17 : decode cX8_noPlace 17 = .ok (.goto 4, 3) := by decide +kernel
theorem dX8_noPlace_20 : decode cX8_noPlace 20 = .ok (.iconst 0, 1) := by decide +kernel
theorem dX8_noPlace_21 : decode cX8_noPlace 21 = .ok (.ireturn, 1) := by decide +kernel
theorem dX8_codeAt_0 : decode cX8_codeAt 0 = .ok (.aload_n 0, 1) := by decide +kernel
theorem dX8_codeAt_1 : decode cX8_codeAt 1 = .ok (.getfield 84, 3) := by decide +kernel
theorem dX8_codeAt_4 : decode cX8_codeAt 4 = .ok (.iload_n 2, 1) := by decide +kernel
theorem dX8_codeAt_5 : decode cX8_codeAt 5 = .ok (.if_icmp .ge 17, 3) := by decide +kernel
theorem dX8_codeAt_8 : decode cX8_codeAt 8 = .ok (.aload_n 0, 1) := by decide +kernel
theorem dX8_codeAt_9 : decode cX8_codeAt 9 = .ok (.getfield 61, 3) := by decide +kernel
theorem dX8_codeAt_12 : decode cX8_codeAt 12 = .ok (.iload_n 1, 1) := by decide +kernel
theorem dX8_codeAt_13 : decode cX8_codeAt 13 = .ok (.aload_n 0, 1) := by decide +kernel
theorem dX8_codeAt_14 : decode cX8_codeAt 14 = .ok (.getfield 84, 3) := by decide +kernel
theorem dX8_codeAt_17 : decode cX8_codeAt 17 = .ok (.iadd, 1) := by decide +kernel
theorem dX8_codeAt_18 : decode cX8_codeAt 18 = .ok (.iaload, 1) := by decide +kernel
theorem dX8_codeAt_19 : decode cX8_codeAt 19 = .ok (.goto 5, 3) := by decide +kernel
theorem dX8_codeAt_22 : decode cX8_codeAt 22 = .ok (.bipush (-9), 2) := by decide +kernel
theorem dX8_codeAt_24 : decode cX8_codeAt 24 = .ok (.ireturn, 1) := by decide +kernel
theorem dX8_readsPlace_0 : decode cX8_readsPlace 0 = .ok (.aload_n 0, 1) := by decide +kernel
theorem dX8_readsPlace_1 : decode cX8_readsPlace 1 = .ok (.getfield 87, 3) := by decide +kernel
theorem dX8_readsPlace_4 : decode cX8_readsPlace 4 = .ok (.iconst 5, 1) := by decide +kernel
theorem dX8_readsPlace_5 : decode cX8_readsPlace 5 = .ok (.if_icmp .eq 14, 3) := by decide +kernel
theorem dX8_readsPlace_8 : decode cX8_readsPlace 8 = .ok (.aload_n 0, 1) := by decide +kernel
theorem dX8_readsPlace_9 : decode cX8_readsPlace 9 = .ok (.iload_n 1, 1) := by decide +kernel
theorem dX8_readsPlace_10 : decode cX8_readsPlace 10 = .ok (.iload_n 2, 1) := by decide +kernel
theorem dX8_readsPlace_11 : decode cX8_readsPlace 11 = .ok (.invokevirtual 90, 3) := by decide +kernel
theorem dX8_readsPlace_14 : decode cX8_readsPlace 14 = .ok (.bipush 59, 2) := by decide +kernel
theorem dX8_readsPlace_16 : decode cX8_readsPlace 16 = .ok (.if_icmp .eq 5, 3) := by decide +kernel
theorem dX8_readsPlace_19 : decode cX8_readsPlace 19 = .ok (.iconst 0, 1) := by decide +kernel
theorem dX8_readsPlace_20 : decode cX8_readsPlace 20 = .ok (.ireturn, 1) := by decide +kernel
theorem dX8_readsPlace_21 : decode cX8_readsPlace 21 = .ok (.aload_n 0, 1) := by decide +kernel
theorem dX8_readsPlace_22 : decode cX8_readsPlace 22 = .ok (.dup, 1) := by decide +kernel
theorem dX8_readsPlace_23 : decode cX8_readsPlace 23 = .ok (.getfield 84, 3) := by decide +kernel
theorem dX8_readsPlace_26 : decode cX8_readsPlace 26 = .ok (.iconst 1, 1) := by decide +kernel
theorem dX8_readsPlace_27 : decode cX8_readsPlace 27 = .ok (.iadd, 1) := by decide +kernel
theorem dX8_readsPlace_28 : decode cX8_readsPlace 28 = .ok (.putfield 84, 3) := by decide +kernel
theorem dX8_readsPlace_31 : decode cX8_readsPlace 31 = .ok (.aload_n 0, 1) := by decide +kernel
theorem dX8_readsPlace_32 : decode cX8_readsPlace 32 = .ok (.iload_n 1, 1) := by decide +kernel
theorem dX8_readsPlace_33 : decode cX8_readsPlace 33 = .ok (.iload_n 2, 1) := by decide +kernel
theorem dX8_readsPlace_34 : decode cX8_readsPlace 34 = .ok (.invokevirtual 90, 3) := by decide +kernel
theorem dX8_readsPlace_37 : decode cX8_readsPlace 37 = .ok (.istore_n 3, 1) := by decide +kernel
theorem dX8_readsPlace_38 : decode cX8_readsPlace 38 = .ok (.iload_n 3, 1) := by decide +kernel
theorem dX8_readsPlace_39 : decode cX8_readsPlace 39 = .ok (.bipush 112, 2) := by decide +kernel
theorem dX8_readsPlace_41 : decode cX8_readsPlace 41 = .ok (.if_icmp .eq 17, 3) := by decide +kernel
theorem dX8_readsPlace_44 : decode cX8_readsPlace 44 = .ok (.iload_n 3, 1) := by decide +kernel
theorem dX8_readsPlace_45 : decode cX8_readsPlace 45 = .ok (.bipush 102, 2) := by decide +kernel
theorem dX8_readsPlace_47 : decode cX8_readsPlace 47 = .ok (.if_icmp .eq 11, 3) := by decide +kernel
theorem dX8_readsPlace_50 : decode cX8_readsPlace 50 = .ok (.iload_n 3, 1) := by decide +kernel
theorem dX8_readsPlace_51 : decode cX8_readsPlace 51 = .ok (.bipush 109, 2) := by decide +kernel
theorem dX8_readsPlace_53 : decode cX8_readsPlace 53 = .ok (.if_icmp .eq 5, 3) := by decide +kernel
theorem dX8_readsPlace_56 : decode cX8_readsPlace 56 = .ok (.iconst 0, 1) := by decide +kernel
theorem dX8_readsPlace_57 : decode cX8_readsPlace 57 = .ok (.ireturn, 1) := by decide +kernel
theorem dX8_readsPlace_58 : decode cX8_readsPlace 58 = .ok (.aload_n 0, 1) := by decide +kernel
theorem dX8_readsPlace_59 : decode cX8_readsPlace 59 = .ok (.dup, 1) := by decide +kernel
theorem dX8_readsPlace_60 : decode cX8_readsPlace 60 = .ok (.getfield 84, 3) := by decide +kernel
theorem dX8_readsPlace_63 : decode cX8_readsPlace 63 = .ok (.iconst 1, 1) := by decide +kernel
theorem dX8_readsPlace_64 : decode cX8_readsPlace 64 = .ok (.iadd, 1) := by decide +kernel
theorem dX8_readsPlace_65 : decode cX8_readsPlace 65 = .ok (.putfield 84, 3) := by decide +kernel
theorem dX8_readsPlace_68 : decode cX8_readsPlace 68 = .ok (.aload_n 0, 1) := by decide +kernel
theorem dX8_readsPlace_69 : decode cX8_readsPlace 69 = .ok (.iload_n 1, 1) := by decide +kernel
theorem dX8_readsPlace_70 : decode cX8_readsPlace 70 = .ok (.iload_n 2, 1) := by decide +kernel
theorem dX8_readsPlace_71 : decode cX8_readsPlace 71 = .ok (.invokevirtual 90, 3) := by decide +kernel
theorem dX8_readsPlace_74 : decode cX8_readsPlace 74 = .ok (.bipush 48, 2) := by decide +kernel
theorem dX8_readsPlace_76 : decode cX8_readsPlace 76 = .ok (.isub, 1) := by decide +kernel
theorem dX8_readsPlace_77 : decode cX8_readsPlace 77 = .ok (.istore 4, 2) := by decide +kernel
theorem dX8_readsPlace_79 : decode cX8_readsPlace 79 = .ok (.iload 4, 2) := by decide +kernel
theorem dX8_readsPlace_81 : decode cX8_readsPlace 81 = .ok (.i2l, 1) := by decide +kernel
theorem dX8_readsPlace_82 : decode cX8_readsPlace 82 = .ok (.lconst 0, 1) := by decide +kernel
theorem dX8_readsPlace_83 : decode cX8_readsPlace 83 = .ok (.aload_n 0, 1) := by decide +kernel
theorem dX8_readsPlace_84 : decode cX8_readsPlace 84 = .ok (.getfield 94, 3) := by decide +kernel
theorem dX8_readsPlace_87 : decode cX8_readsPlace 87 = .ok (.i2l, 1) := by decide +kernel
theorem dX8_readsPlace_88 : decode cX8_readsPlace 88 = .ok (.lconst 1, 1) := by decide +kernel
theorem dX8_readsPlace_89 : decode cX8_readsPlace 89 = .ok (.lsub, 1) := by decide +kernel
theorem dX8_readsPlace_90 : decode cX8_readsPlace 90 = .ok (.invokestatic 80, 3) := by decide +kernel
theorem dX8_readsPlace_93 : decode cX8_readsPlace 93 = .ok (.ifCond .ne 5, 3) := by decide +kernel
theorem dX8_readsPlace_96 : decode cX8_readsPlace 96 = .ok (.iconst 0, 1) := by decide +kernel
theorem dX8_readsPlace_97 : decode cX8_readsPlace 97 = .ok (.ireturn, 1) := by decide +kernel
theorem dX8_readsPlace_98 : decode cX8_readsPlace 98 = .ok (.aload_n 0, 1) := by decide +kernel
theorem dX8_readsPlace_99 : decode cX8_readsPlace 99 = .ok (.dup, 1) := by decide +kernel
theorem dX8_readsPlace_100 : decode cX8_readsPlace 100 = .ok (.getfield 84, 3) := by decide +kernel
theorem dX8_readsPlace_103 : decode cX8_readsPlace 103 = .ok (.iconst 1, 1) := by decide +kernel
theorem dX8_readsPlace_104 : decode cX8_readsPlace 104 = .ok (.iadd, 1) := by decide +kernel
theorem dX8_readsPlace_105 : decode cX8_readsPlace 105 = .ok (.putfield 84, 3) := by decide +kernel
theorem dX8_readsPlace_108 : decode cX8_readsPlace 108 = .ok (.aload_n 0, 1) := by decide +kernel
theorem dX8_readsPlace_109 : decode cX8_readsPlace 109 = .ok (.getfield 16, 3) := by decide +kernel
theorem dX8_readsPlace_112 : decode cX8_readsPlace 112 = .ok (.aload_n 0, 1) := by decide +kernel
theorem dX8_readsPlace_113 : decode cX8_readsPlace 113 = .ok (.getfield 87, 3) := by decide +kernel
theorem dX8_readsPlace_116 : decode cX8_readsPlace 116 = .ok (.iload_n 3, 1) := by decide +kernel
theorem dX8_readsPlace_117 : decode cX8_readsPlace 117 = .ok (.bipush 112, 2) := by decide +kernel
theorem dX8_readsPlace_119 : decode cX8_readsPlace 119 = .ok (.if_icmp .ne 7, 3) := by decide +kernel
theorem dX8_readsPlace_122 : decode cX8_readsPlace 122 = .ok (.iconst 0, 1) := by decide +kernel
theorem dX8_readsPlace_123 : decode cX8_readsPlace 123 = .ok (.goto 14, 3) := by decide +kernel
theorem dX8_readsPlace_126 : decode cX8_readsPlace 126 = .ok (.iload_n 3, 1) := by decide +kernel
theorem dX8_readsPlace_127 : decode cX8_readsPlace 127 = .ok (.bipush 102, 2) := by decide +kernel
theorem dX8_readsPlace_129 : decode cX8_readsPlace 129 = .ok (.if_icmp .ne 7, 3) := by decide +kernel
theorem dX8_readsPlace_132 : decode cX8_readsPlace 132 = .ok (.iconst 1, 1) := by decide +kernel
theorem dX8_readsPlace_133 : decode cX8_readsPlace 133 = .ok (.goto 4, 3) := by decide +kernel
theorem dX8_readsPlace_136 : decode cX8_readsPlace 136 = .ok (.iconst 2, 1) := by decide +kernel
theorem dX8_readsPlace_137 : decode cX8_readsPlace 137 = .ok (.iastore, 1) := by decide +kernel
theorem dX8_readsPlace_138 : decode cX8_readsPlace 138 = .ok (.aload_n 0, 1) := by decide +kernel
theorem dX8_readsPlace_139 : decode cX8_readsPlace 139 = .ok (.getfield 19, 3) := by decide +kernel
theorem dX8_readsPlace_142 : decode cX8_readsPlace 142 = .ok (.aload_n 0, 1) := by decide +kernel
theorem dX8_readsPlace_143 : decode cX8_readsPlace 143 = .ok (.getfield 87, 3) := by decide +kernel
theorem dX8_readsPlace_146 : decode cX8_readsPlace 146 = .ok (.iload 4, 2) := by decide +kernel
theorem dX8_readsPlace_148 : decode cX8_readsPlace 148 = .ok (.iastore, 1) := by decide +kernel
theorem dX8_readsPlace_149 : decode cX8_readsPlace 149 = .ok (.aload_n 0, 1) := by decide +kernel
theorem dX8_readsPlace_150 : decode cX8_readsPlace 150 = .ok (.dup, 1) := by decide +kernel
theorem dX8_readsPlace_151 : decode cX8_readsPlace 151 = .ok (.getfield 87, 3) := by decide +kernel
theorem dX8_readsPlace_154 : decode cX8_readsPlace 154 = .ok (.iconst 1, 1) := by decide +kernel
theorem dX8_readsPlace_155 : decode cX8_readsPlace 155 = .ok (.iadd, 1) := by decide +kernel
theorem dX8_readsPlace_156 : decode cX8_readsPlace 156 = .ok (.putfield 87, 3) := by decide +kernel
theorem dX8_readsPlace_159 : decode cX8_readsPlace 159 = .ok (.iconst 1, 1) := by decide +kernel
theorem dX8_readsPlace_160 : decode cX8_readsPlace 160 = .ok (.ireturn, 1) := by decide +kernel
theorem dX8_readsRing_0 : decode cX8_readsRing 0 = .ok (.aload_n 0, 1) := by decide +kernel
theorem dX8_readsRing_1 : decode cX8_readsRing 1 = .ok (.iconst 0, 1) := by decide +kernel
theorem dX8_readsRing_2 : decode cX8_readsRing 2 = .ok (.putfield 84, 3) := by decide +kernel
theorem dX8_readsRing_5 : decode cX8_readsRing 5 = .ok (.aload_n 0, 1) := by decide +kernel
theorem dX8_readsRing_6 : decode cX8_readsRing 6 = .ok (.iconst 0, 1) := by decide +kernel
theorem dX8_readsRing_7 : decode cX8_readsRing 7 = .ok (.putfield 87, 3) := by decide +kernel
theorem dX8_readsRing_10 : decode cX8_readsRing 10 = .ok (.aload_n 0, 1) := by decide +kernel
theorem dX8_readsRing_11 : decode cX8_readsRing 11 = .ok (.iload_n 1, 1) := by decide +kernel
theorem dX8_readsRing_12 : decode cX8_readsRing 12 = .ok (.iload_n 2, 1) := by decide +kernel
theorem dX8_readsRing_13 : decode cX8_readsRing 13 = .ok (.invokevirtual 90, 3) := by decide +kernel
theorem dX8_readsRing_16 : decode cX8_readsRing 16 = .ok (.bipush 114, 2) := by decide +kernel
theorem dX8_readsRing_18 : decode cX8_readsRing 18 = .ok (.if_icmp .eq 5, 3) := by decide +kernel
theorem dX8_readsRing_21 : decode cX8_readsRing 21 = .ok (.iconst 0, 1) := by decide +kernel
theorem dX8_readsRing_22 : decode cX8_readsRing 22 = .ok (.ireturn, 1) := by decide +kernel
theorem dX8_readsRing_23 : decode cX8_readsRing 23 = .ok (.aload_n 0, 1) := by decide +kernel
theorem dX8_readsRing_24 : decode cX8_readsRing 24 = .ok (.dup, 1) := by decide +kernel
theorem dX8_readsRing_25 : decode cX8_readsRing 25 = .ok (.getfield 84, 3) := by decide +kernel
theorem dX8_readsRing_28 : decode cX8_readsRing 28 = .ok (.iconst 1, 1) := by decide +kernel
theorem dX8_readsRing_29 : decode cX8_readsRing 29 = .ok (.iadd, 1) := by decide +kernel
theorem dX8_readsRing_30 : decode cX8_readsRing 30 = .ok (.putfield 84, 3) := by decide +kernel
theorem dX8_readsRing_33 : decode cX8_readsRing 33 = .ok (.aload_n 0, 1) := by decide +kernel
theorem dX8_readsRing_34 : decode cX8_readsRing 34 = .ok (.aload_n 0, 1) := by decide +kernel
theorem dX8_readsRing_35 : decode cX8_readsRing 35 = .ok (.iload_n 1, 1) := by decide +kernel
theorem dX8_readsRing_36 : decode cX8_readsRing 36 = .ok (.iload_n 2, 1) := by decide +kernel
theorem dX8_readsRing_37 : decode cX8_readsRing 37 = .ok (.invokevirtual 90, 3) := by decide +kernel
theorem dX8_readsRing_40 : decode cX8_readsRing 40 = .ok (.bipush 48, 2) := by decide +kernel
theorem dX8_readsRing_42 : decode cX8_readsRing 42 = .ok (.isub, 1) := by decide +kernel
theorem dX8_readsRing_43 : decode cX8_readsRing 43 = .ok (.putfield 94, 3) := by decide +kernel
theorem dX8_readsRing_46 : decode cX8_readsRing 46 = .ok (.aload_n 0, 1) := by decide +kernel
theorem dX8_readsRing_47 : decode cX8_readsRing 47 = .ok (.getfield 94, 3) := by decide +kernel
theorem dX8_readsRing_50 : decode cX8_readsRing 50 = .ok (.i2l, 1) := by decide +kernel
theorem dX8_readsRing_51 : decode cX8_readsRing 51 = .ok (.ldc2_w 97, 3) := by decide +kernel
theorem dX8_readsRing_54 : decode cX8_readsRing 54 = .ok (.ldc2_w 99, 3) := by decide +kernel
theorem dX8_readsRing_57 : decode cX8_readsRing 57 = .ok (.invokestatic 80, 3) := by decide +kernel
theorem dX8_readsRing_60 : decode cX8_readsRing 60 = .ok (.ifCond .ne 5, 3) := by decide +kernel
theorem dX8_readsRing_63 : decode cX8_readsRing 63 = .ok (.iconst 0, 1) := by decide +kernel
theorem dX8_readsRing_64 : decode cX8_readsRing 64 = .ok (.ireturn, 1) := by decide +kernel
theorem dX8_readsRing_65 : decode cX8_readsRing 65 = .ok (.aload_n 0, 1) := by decide +kernel
theorem dX8_readsRing_66 : decode cX8_readsRing 66 = .ok (.dup, 1) := by decide +kernel
end
section
theorem dX8_readsRing_67 : decode cX8_readsRing 67 = .ok (.getfield 84, 3) := by decide +kernel
theorem dX8_readsRing_70 : decode cX8_readsRing 70 = .ok (.iconst 1, 1) := by decide +kernel
theorem dX8_readsRing_71 : decode cX8_readsRing 71 = .ok (.iadd, 1) := by decide +kernel
theorem dX8_readsRing_72 : decode cX8_readsRing 72 = .ok (.putfield 84, 3) := by decide +kernel
theorem dX8_readsRing_75 : decode cX8_readsRing 75 = .ok (.iconst 1, 1) := by decide +kernel
theorem dX8_readsRing_76 : decode cX8_readsRing 76 = .ok (.istore_n 3, 1) := by decide +kernel
theorem dX8_readsRing_77 : decode cX8_readsRing 77 = .ok (.iload_n 3, 1) := by decide +kernel
theorem dX8_readsRing_78 : decode cX8_readsRing 78 = .ok (.ifCond .eq 29, 3) := by decide +kernel
theorem dX8_readsRing_81 : decode cX8_readsRing 81 = .ok (.aload_n 0, 1) := by decide +kernel
theorem dX8_readsRing_82 : decode cX8_readsRing 82 = .ok (.getfield 87, 3) := by decide +kernel
theorem dX8_readsRing_85 : decode cX8_readsRing 85 = .ok (.iconst 2, 1) := by decide +kernel
theorem dX8_readsRing_86 : decode cX8_readsRing 86 = .ok (.if_icmp .lt 11, 3) := by decide +kernel
theorem dX8_readsRing_89 : decode cX8_readsRing 89 = .ok (.aload_n 0, 1) := by decide +kernel
theorem dX8_readsRing_90 : decode cX8_readsRing 90 = .ok (.getfield 84, 3) := by decide +kernel
theorem dX8_readsRing_93 : decode cX8_readsRing 93 = .ok (.iload_n 2, 1) := by decide +kernel
theorem dX8_readsRing_94 : decode cX8_readsRing 94 = .ok (.if_icmp .ge 13, 3) := by decide +kernel
theorem dX8_readsRing_97 : decode cX8_readsRing 97 = .ok (.aload_n 0, 1) := by decide +kernel
theorem dX8_readsRing_98 : decode cX8_readsRing 98 = .ok (.iload_n 1, 1) := by decide +kernel
theorem dX8_readsRing_99 : decode cX8_readsRing 99 = .ok (.iload_n 2, 1) := by decide +kernel
theorem dX8_readsRing_100 : decode cX8_readsRing 100 = .ok (.invokevirtual 101, 3) := by decide +kernel
theorem dX8_readsRing_103 : decode cX8_readsRing 103 = .ok (.istore_n 3, 1) := by decide +kernel
theorem dX8_readsRing_104 : decode cX8_readsRing 104 = .ok (.goto (-27), 3) := by decide +kernel
theorem dX8_readsRing_107 : decode cX8_readsRing 107 = .ok (.iload_n 3, 1) := by decide +kernel
theorem dX8_readsRing_108 : decode cX8_readsRing 108 = .ok (.ireturn, 1) := by decide +kernel
theorem dX8_cellsBarred_0 : decode cX8_cellsBarred 0 = .ok (.aload_n 0, 1) := by decide +kernel
theorem dX8_cellsBarred_1 : decode cX8_cellsBarred 1 = .ok (.getfield 55, 3) := by decide +kernel
theorem dX8_cellsBarred_4 : decode cX8_cellsBarred 4 = .ok (.iload_n 1, 1) := by decide +kernel
theorem dX8_cellsBarred_5 : decode cX8_cellsBarred 5 = .ok (.iaload, 1) := by decide +kernel
theorem dX8_cellsBarred_6 : decode cX8_cellsBarred 6 = .ok (.ifCond .lt 19, 3) := by decide +kernel
theorem dX8_cellsBarred_9 : decode cX8_cellsBarred 9 = .ok (.aload_n 0, 1) := by decide +kernel
theorem dX8_cellsBarred_10 : decode cX8_cellsBarred 10 = .ok (.getfield 58, 3) := by decide +kernel
theorem dX8_cellsBarred_13 : decode cX8_cellsBarred 13 = .ok (.iload_n 1, 1) := by decide +kernel
theorem dX8_cellsBarred_14 : decode cX8_cellsBarred 14 = .ok (.iaload, 1) := by decide +kernel
theorem dX8_cellsBarred_15 : decode cX8_cellsBarred 15 = .ok (.iload_n 2, 1) := by decide +kernel
theorem dX8_cellsBarred_16 : decode cX8_cellsBarred 16 = .ok (.if_icmp .eq 9, 3) := by decide +kernel
theorem dX8_cellsBarred_19 : decode cX8_cellsBarred 19 = .ok (.aload_n 0, 1) := by decide +kernel
theorem dX8_cellsBarred_20 : decode cX8_cellsBarred 20 = .ok (.iconst 2, 1) := by decide +kernel
theorem dX8_cellsBarred_21 : decode cX8_cellsBarred 21 = .ok (.invokevirtual 105, 3) := by decide +kernel
theorem dX8_cellsBarred_24 : decode cX8_cellsBarred 24 = .ok (.ireturn, 1) := by decide +kernel
theorem dX8_cellsBarred_25 : decode cX8_cellsBarred 25 = .ok (.aload_n 0, 1) := by decide +kernel
theorem dX8_cellsBarred_26 : decode cX8_cellsBarred 26 = .ok (.getfield 55, 3) := by decide +kernel
theorem dX8_cellsBarred_29 : decode cX8_cellsBarred 29 = .ok (.iload_n 1, 1) := by decide +kernel
theorem dX8_cellsBarred_30 : decode cX8_cellsBarred 30 = .ok (.iaload, 1) := by decide +kernel
theorem dX8_cellsBarred_31 : decode cX8_cellsBarred 31 = .ok (.ifCond .ge 9, 3) := by decide +kernel
theorem dX8_cellsBarred_34 : decode cX8_cellsBarred 34 = .ok (.aload_n 0, 1) := by decide +kernel
theorem dX8_cellsBarred_35 : decode cX8_cellsBarred 35 = .ok (.iconst 1, 1) := by decide +kernel
theorem dX8_cellsBarred_36 : decode cX8_cellsBarred 36 = .ok (.invokevirtual 105, 3) := by decide +kernel
theorem dX8_cellsBarred_39 : decode cX8_cellsBarred 39 = .ok (.ireturn, 1) := by decide +kernel
theorem dX8_cellsBarred_40 : decode cX8_cellsBarred 40 = .ok (.lload 4, 2) := by decide +kernel
theorem dX8_cellsBarred_42 : decode cX8_cellsBarred 42 = .ok (.lconst 0, 1) := by decide +kernel
theorem dX8_cellsBarred_43 : decode cX8_cellsBarred 43 = .ok (.lcmp, 1) := by decide +kernel
theorem dX8_cellsBarred_44 : decode cX8_cellsBarred 44 = .ok (.ifCond .ge 9, 3) := by decide +kernel
theorem dX8_cellsBarred_47 : decode cX8_cellsBarred 47 = .ok (.aload_n 0, 1) := by decide +kernel
theorem dX8_cellsBarred_48 : decode cX8_cellsBarred 48 = .ok (.iconst 4, 1) := by decide +kernel
theorem dX8_cellsBarred_49 : decode cX8_cellsBarred 49 = .ok (.invokevirtual 105, 3) := by decide +kernel
theorem dX8_cellsBarred_52 : decode cX8_cellsBarred 52 = .ok (.ireturn, 1) := by decide +kernel
theorem dX8_cellsBarred_53 : decode cX8_cellsBarred 53 = .ok (.iload_n 3, 1) := by decide +kernel
theorem dX8_cellsBarred_54 : decode cX8_cellsBarred 54 = .ok (.lload 4, 2) := by decide +kernel
theorem dX8_cellsBarred_56 : decode cX8_cellsBarred 56 = .ok (.aload_n 0, 1) := by decide +kernel
theorem dX8_cellsBarred_57 : decode cX8_cellsBarred 57 = .ok (.getfield 55, 3) := by decide +kernel
theorem dX8_cellsBarred_60 : decode cX8_cellsBarred 60 = .ok (.iload_n 1, 1) := by decide +kernel
theorem dX8_cellsBarred_61 : decode cX8_cellsBarred 61 = .ok (.iaload, 1) := by decide +kernel
theorem dX8_cellsBarred_62 : decode cX8_cellsBarred 62 = .ok (.invokestatic 109, 3) := by decide +kernel
theorem dX8_cellsBarred_65 : decode cX8_cellsBarred 65 = .ok (.ifCond .eq 11, 3) := by decide +kernel
theorem dX8_cellsBarred_68 : decode cX8_cellsBarred 68 = .ok (.aload_n 0, 1) := by decide +kernel
theorem dX8_cellsBarred_69 : decode cX8_cellsBarred 69 = .ok (.iconst 3, 1) := by decide +kernel
theorem dX8_cellsBarred_70 : decode cX8_cellsBarred 70 = .ok (.invokevirtual 105, 3) := by decide +kernel
theorem dX8_cellsBarred_73 : decode cX8_cellsBarred 73 = .ok (.goto 4, 3) := by decide +kernel
theorem dX8_cellsBarred_76 : decode cX8_cellsBarred 76 = .ok (.iconst 0, 1) := by decide +kernel
theorem dX8_cellsBarred_77 : decode cX8_cellsBarred 77 = .ok (.ireturn, 1) := by decide +kernel
theorem dX8_ring_0 : decode cX8_ring 0 = .ok (.iload_n 1, 1) := by decide +kernel
theorem dX8_ring_1 : decode cX8_ring 1 = .ok (.invokestatic 113, 3) := by decide +kernel
theorem dX8_ring_4 : decode cX8_ring 4 = .ok (.ifCond .eq 9, 3) := by decide +kernel
theorem dX8_ring_7 : decode cX8_ring 7 = .ok (.aload_n 0, 1) := by decide +kernel
theorem dX8_ring_8 : decode cX8_ring 8 = .ok (.iconst (-1), 1) := by decide +kernel
theorem dX8_ring_9 : decode cX8_ring 9 = .ok (.invokevirtual 117, 3) := by decide +kernel
theorem dX8_ring_12 : decode cX8_ring 12 = .ok (.ireturn, 1) := by decide +kernel
theorem dX8_ring_13 : decode cX8_ring 13 = .ok (.iload_n 2, 1) := by decide +kernel
theorem dX8_ring_14 : decode cX8_ring 14 = .ok (.i2l, 1) := by decide +kernel
theorem dX8_ring_15 : decode cX8_ring 15 = .ok (.lconst 0, 1) := by decide +kernel
theorem dX8_ring_16 : decode cX8_ring 16 = .ok (.ldc2_w 97, 3) := by decide +kernel
theorem dX8_ring_19 : decode cX8_ring 19 = .ok (.invokestatic 80, 3) := by decide +kernel
theorem dX8_ring_22 : decode cX8_ring 22 = .ok (.ifCond .ne 10, 3) := by decide +kernel
theorem dX8_ring_25 : decode cX8_ring 25 = .ok (.aload_n 0, 1) := by decide +kernel
theorem dX8_ring_26 : decode cX8_ring 26 = .ok (.bipush (-2), 2) := by decide +kernel
theorem dX8_ring_28 : decode cX8_ring 28 = .ok (.invokevirtual 117, 3) := by decide +kernel
theorem dX8_ring_31 : decode cX8_ring 31 = .ok (.ireturn, 1) := by decide +kernel
theorem dX8_ring_32 : decode cX8_ring 32 = .ok (.aload_n 0, 1) := by decide +kernel
theorem dX8_ring_33 : decode cX8_ring 33 = .ok (.iload_n 1, 1) := by decide +kernel
theorem dX8_ring_34 : decode cX8_ring 34 = .ok (.iload_n 2, 1) := by decide +kernel
theorem dX8_ring_35 : decode cX8_ring 35 = .ok (.iload_n 3, 1) := by decide +kernel
theorem dX8_ring_36 : decode cX8_ring 36 = .ok (.iload 4, 2) := by decide +kernel
theorem dX8_ring_38 : decode cX8_ring 38 = .ok (.i2l, 1) := by decide +kernel
theorem dX8_ring_39 : decode cX8_ring 39 = .ok (.invokevirtual 120, 3) := by decide +kernel
theorem dX8_ring_42 : decode cX8_ring 42 = .ok (.istore 5, 2) := by decide +kernel
theorem dX8_ring_44 : decode cX8_ring 44 = .ok (.iload 5, 2) := by decide +kernel
theorem dX8_ring_46 : decode cX8_ring 46 = .ok (.ifCond .ge 6, 3) := by decide +kernel
theorem dX8_ring_49 : decode cX8_ring 49 = .ok (.iload 5, 2) := by decide +kernel
theorem dX8_ring_51 : decode cX8_ring 51 = .ok (.ireturn, 1) := by decide +kernel
theorem dX8_ring_52 : decode cX8_ring 52 = .ok (.aload_n 0, 1) := by decide +kernel
theorem dX8_ring_53 : decode cX8_ring 53 = .ok (.bipush 60, 2) := by decide +kernel
theorem dX8_ring_55 : decode cX8_ring 55 = .ok (.iload_n 1, 1) := by decide +kernel
theorem dX8_ring_56 : decode cX8_ring 56 = .ok (.imul, 1) := by decide +kernel
theorem dX8_ring_57 : decode cX8_ring 57 = .ok (.iload_n 3, 1) := by decide +kernel
theorem dX8_ring_58 : decode cX8_ring 58 = .ok (.iadd, 1) := by decide +kernel
theorem dX8_ring_59 : decode cX8_ring 59 = .ok (.iload 4, 2) := by decide +kernel
theorem dX8_ring_61 : decode cX8_ring 61 = .ok (.invokevirtual 124, 3) := by decide +kernel
theorem dX8_ring_64 : decode cX8_ring 64 = .ok (.ifCond .ne 15, 3) := by decide +kernel
theorem dX8_ring_67 : decode cX8_ring 67 = .ok (.aload_n 0, 1) := by decide +kernel
theorem dX8_ring_68 : decode cX8_ring 68 = .ok (.bipush (-100), 2) := by decide +kernel
theorem dX8_ring_70 : decode cX8_ring 70 = .ok (.aload_n 0, 1) := by decide +kernel
theorem dX8_ring_71 : decode cX8_ring 71 = .ok (.getfield 84, 3) := by decide +kernel
theorem dX8_ring_74 : decode cX8_ring 74 = .ok (.isub, 1) := by decide +kernel
theorem dX8_ring_75 : decode cX8_ring 75 = .ok (.invokevirtual 117, 3) := by decide +kernel
theorem dX8_ring_78 : decode cX8_ring 78 = .ok (.ireturn, 1) := by decide +kernel
theorem dX8_ring_79 : decode cX8_ring 79 = .ok (.aload_n 0, 1) := by decide +kernel
theorem dX8_ring_80 : decode cX8_ring 80 = .ok (.aload_n 0, 1) := by decide +kernel
theorem dX8_ring_81 : decode cX8_ring 81 = .ok (.getfield 87, 3) := by decide +kernel
theorem dX8_ring_84 : decode cX8_ring 84 = .ok (.putfield 77, 3) := by decide +kernel
theorem dX8_ring_87 : decode cX8_ring 87 = .ok (.aload_n 0, 1) := by decide +kernel
theorem dX8_ring_88 : decode cX8_ring 88 = .ok (.aload_n 0, 1) := by decide +kernel
theorem dX8_ring_89 : decode cX8_ring 89 = .ok (.getfield 94, 3) := by decide +kernel
theorem dX8_ring_92 : decode cX8_ring 92 = .ok (.putfield 127, 3) := by decide +kernel
theorem dX8_ring_95 : decode cX8_ring 95 = .ok (.aload_n 0, 1) := by decide +kernel
theorem dX8_ring_96 : decode cX8_ring 96 = .ok (.iconst 0, 1) := by decide +kernel
theorem dX8_ring_97 : decode cX8_ring 97 = .ok (.putfield 130, 3) := by decide +kernel
theorem dX8_ring_100 : decode cX8_ring 100 = .ok (.iconst 0, 1) := by decide +kernel
theorem dX8_ring_101 : decode cX8_ring 101 = .ok (.istore 6, 2) := by decide +kernel
theorem dX8_ring_103 : decode cX8_ring 103 = .ok (.iload 6, 2) := by decide +kernel
theorem dX8_ring_105 : decode cX8_ring 105 = .ok (.aload_n 0, 1) := by decide +kernel
theorem dX8_ring_106 : decode cX8_ring 106 = .ok (.getfield 77, 3) := by decide +kernel
theorem dX8_ring_109 : decode cX8_ring 109 = .ok (.if_icmp .ge 37, 3) := by decide +kernel
theorem dX8_ring_112 : decode cX8_ring 112 = .ok (.aload_n 0, 1) := by decide +kernel
theorem dX8_ring_113 : decode cX8_ring 113 = .ok (.getfield 7, 3) := by decide +kernel
theorem dX8_ring_116 : decode cX8_ring 116 = .ok (.iload 6, 2) := by decide +kernel
theorem dX8_ring_118 : decode cX8_ring 118 = .ok (.aload_n 0, 1) := by decide +kernel
theorem dX8_ring_119 : decode cX8_ring 119 = .ok (.getfield 16, 3) := by decide +kernel
theorem dX8_ring_122 : decode cX8_ring 122 = .ok (.iload 6, 2) := by decide +kernel
theorem dX8_ring_124 : decode cX8_ring 124 = .ok (.iaload, 1) := by decide +kernel
theorem dX8_ring_125 : decode cX8_ring 125 = .ok (.iastore, 1) := by decide +kernel
theorem dX8_ring_126 : decode cX8_ring 126 = .ok (.aload_n 0, 1) := by decide +kernel
theorem dX8_ring_127 : decode cX8_ring 127 = .ok (.getfield 13, 3) := by decide +kernel
theorem dX8_ring_130 : decode cX8_ring 130 = .ok (.iload 6, 2) := by decide +kernel
theorem dX8_ring_132 : decode cX8_ring 132 = .ok (.aload_n 0, 1) := by decide +kernel
theorem dX8_ring_133 : decode cX8_ring 133 = .ok (.getfield 19, 3) := by decide +kernel
theorem dX8_ring_136 : decode cX8_ring 136 = .ok (.iload 6, 2) := by decide +kernel
theorem dX8_ring_138 : decode cX8_ring 138 = .ok (.iaload, 1) := by decide +kernel
theorem dX8_ring_139 : decode cX8_ring 139 = .ok (.iastore, 1) := by decide +kernel
theorem dX8_ring_140 : decode cX8_ring 140 = .ok (.iinc 6 1, 3) := by decide +kernel
theorem dX8_ring_143 : decode cX8_ring 143 = .ok (.goto (-40), 3) := by decide +kernel
theorem dX8_ring_146 : decode cX8_ring 146 = .ok (.aload_n 0, 1) := by decide +kernel
theorem dX8_ring_147 : decode cX8_ring 147 = .ok (.iconst 0, 1) := by decide +kernel
theorem dX8_ring_148 : decode cX8_ring 148 = .ok (.putfield 133, 3) := by decide +kernel
theorem dX8_ring_151 : decode cX8_ring 151 = .ok (.aload_n 0, 1) := by decide +kernel
theorem dX8_ring_152 : decode cX8_ring 152 = .ok (.aload_n 0, 1) := by decide +kernel
theorem dX8_ring_153 : decode cX8_ring 153 = .ok (.getfield 77, 3) := by decide +kernel
theorem dX8_ring_156 : decode cX8_ring 156 = .ok (.invokevirtual 117, 3) := by decide +kernel
theorem dX8_ring_159 : decode cX8_ring 159 = .ok (.ireturn, 1) := by decide +kernel
theorem dX8_apart_0 : decode cX8_apart 0 = .ok (.iload_n 0, 1) := by decide +kernel
theorem dX8_apart_1 : decode cX8_apart 1 = .ok (.iload_n 1, 1) := by decide +kernel
theorem dX8_apart_2 : decode cX8_apart 2 = .ok (.if_icmp .le 9, 3) := by decide +kernel
theorem dX8_apart_5 : decode cX8_apart 5 = .ok (.iload_n 0, 1) := by decide +kernel
theorem dX8_apart_6 : decode cX8_apart 6 = .ok (.iload_n 1, 1) := by decide +kernel
theorem dX8_apart_7 : decode cX8_apart 7 = .ok (.isub, 1) := by decide +kernel
theorem dX8_apart_8 : decode cX8_apart 8 = .ok (.goto 6, 3) := by decide +kernel
theorem dX8_apart_11 : decode cX8_apart 11 = .ok (.iload_n 1, 1) := by decide +kernel
theorem dX8_apart_12 : decode cX8_apart 12 = .ok (.iload_n 0, 1) := by decide +kernel
theorem dX8_apart_13 : decode cX8_apart 13 = .ok (.isub, 1) := by decide +kernel
theorem dX8_apart_14 : decode cX8_apart 14 = .ok (.ireturn, 1) := by decide +kernel
theorem dX8_becomes_0 : decode cX8_becomes 0 = .ok (.aload_n 0, 1) := by decide +kernel
theorem dX8_becomes_1 : decode cX8_becomes 1 = .ok (.getfield 22, 3) := by decide +kernel
theorem dX8_becomes_4 : decode cX8_becomes 4 = .ok (.iload_n 1, 1) := by decide +kernel
theorem dX8_becomes_5 : decode cX8_becomes 5 = .ok (.iaload, 1) := by decide +kernel
theorem dX8_becomes_6 : decode cX8_becomes 6 = .ok (.aload_n 0, 1) := by decide +kernel
theorem dX8_becomes_7 : decode cX8_becomes 7 = .ok (.getfield 22, 3) := by decide +kernel
theorem dX8_becomes_10 : decode cX8_becomes 10 = .ok (.iload_n 1, 1) := by decide +kernel
theorem dX8_becomes_11 : decode cX8_becomes 11 = .ok (.iconst 1, 1) := by decide +kernel
theorem dX8_becomes_12 : decode cX8_becomes 12 = .ok (.iadd, 1) := by decide +kernel
theorem dX8_becomes_13 : decode cX8_becomes 13 = .ok (.aload_n 0, 1) := by decide +kernel
theorem dX8_becomes_14 : decode cX8_becomes 14 = .ok (.getfield 77, 3) := by decide +kernel
theorem dX8_becomes_17 : decode cX8_becomes 17 = .ok (.irem, 1) := by decide +kernel
theorem dX8_becomes_18 : decode cX8_becomes 18 = .ok (.iaload, 1) := by decide +kernel
theorem dX8_becomes_19 : decode cX8_becomes 19 = .ok (.invokestatic 136, 3) := by decide +kernel
theorem dX8_becomes_22 : decode cX8_becomes 22 = .ok (.istore_n 2, 1) := by decide +kernel
theorem dX8_becomes_23 : decode cX8_becomes 23 = .ok (.aload_n 0, 1) := by decide +kernel
theorem dX8_becomes_24 : decode cX8_becomes 24 = .ok (.getfield 22, 3) := by decide +kernel
theorem dX8_becomes_27 : decode cX8_becomes 27 = .ok (.iload_n 1, 1) := by decide +kernel
theorem dX8_becomes_28 : decode cX8_becomes 28 = .ok (.iaload, 1) := by decide +kernel
theorem dX8_becomes_29 : decode cX8_becomes 29 = .ok (.aload_n 0, 1) := by decide +kernel
theorem dX8_becomes_30 : decode cX8_becomes 30 = .ok (.getfield 22, 3) := by decide +kernel
theorem dX8_becomes_33 : decode cX8_becomes 33 = .ok (.iload_n 1, 1) := by decide +kernel
theorem dX8_becomes_34 : decode cX8_becomes 34 = .ok (.iconst 2, 1) := by decide +kernel
theorem dX8_becomes_35 : decode cX8_becomes 35 = .ok (.iadd, 1) := by decide +kernel
theorem dX8_becomes_36 : decode cX8_becomes 36 = .ok (.aload_n 0, 1) := by decide +kernel
theorem dX8_becomes_37 : decode cX8_becomes 37 = .ok (.getfield 77, 3) := by decide +kernel
theorem dX8_becomes_40 : decode cX8_becomes 40 = .ok (.irem, 1) := by decide +kernel
theorem dX8_becomes_41 : decode cX8_becomes 41 = .ok (.iaload, 1) := by decide +kernel
theorem dX8_becomes_42 : decode cX8_becomes 42 = .ok (.invokestatic 136, 3) := by decide +kernel
theorem dX8_becomes_45 : decode cX8_becomes 45 = .ok (.istore_n 3, 1) := by decide +kernel
theorem dX8_becomes_46 : decode cX8_becomes 46 = .ok (.aload_n 0, 1) := by decide +kernel
theorem dX8_becomes_47 : decode cX8_becomes 47 = .ok (.getfield 7, 3) := by decide +kernel
theorem dX8_becomes_50 : decode cX8_becomes 50 = .ok (.iload_n 1, 1) := by decide +kernel
theorem dX8_becomes_51 : decode cX8_becomes 51 = .ok (.iaload, 1) := by decide +kernel
theorem dX8_becomes_52 : decode cX8_becomes 52 = .ok (.ifCond .ne 7, 3) := by decide +kernel
theorem dX8_becomes_55 : decode cX8_becomes 55 = .ok (.iload_n 2, 1) := by decide +kernel
theorem dX8_becomes_56 : decode cX8_becomes 56 = .ok (.goto 25, 3) := by decide +kernel
theorem dX8_becomes_59 : decode cX8_becomes 59 = .ok (.aload_n 0, 1) := by decide +kernel
theorem dX8_becomes_60 : decode cX8_becomes 60 = .ok (.getfield 7, 3) := by decide +kernel
theorem dX8_becomes_63 : decode cX8_becomes 63 = .ok (.iload_n 1, 1) := by decide +kernel
theorem dX8_becomes_64 : decode cX8_becomes 64 = .ok (.iaload, 1) := by decide +kernel
theorem dX8_becomes_65 : decode cX8_becomes 65 = .ok (.iconst 1, 1) := by decide +kernel
theorem dX8_becomes_66 : decode cX8_becomes 66 = .ok (.if_icmp .ne 7, 3) := by decide +kernel
theorem dX8_becomes_69 : decode cX8_becomes 69 = .ok (.iload_n 3, 1) := by decide +kernel
theorem dX8_becomes_70 : decode cX8_becomes 70 = .ok (.goto 11, 3) := by decide +kernel
theorem dX8_becomes_73 : decode cX8_becomes 73 = .ok (.iload_n 3, 1) := by decide +kernel
theorem dX8_becomes_74 : decode cX8_becomes 74 = .ok (.iload_n 2, 1) := by decide +kernel
theorem dX8_becomes_75 : decode cX8_becomes 75 = .ok (.iadd, 1) := by decide +kernel
theorem dX8_becomes_76 : decode cX8_becomes 76 = .ok (.aload_n 0, 1) := by decide +kernel
theorem dX8_becomes_77 : decode cX8_becomes 77 = .ok (.getfield 127, 3) := by decide +kernel
theorem dX8_becomes_80 : decode cX8_becomes 80 = .ok (.irem, 1) := by decide +kernel
theorem dX8_becomes_81 : decode cX8_becomes 81 = .ok (.ireturn, 1) := by decide +kernel
theorem dX8_stepsOnce_0 : decode cX8_stepsOnce 0 = .ok (.iconst 0, 1) := by decide +kernel
theorem dX8_stepsOnce_1 : decode cX8_stepsOnce 1 = .ok (.istore_n 1, 1) := by decide +kernel
theorem dX8_stepsOnce_2 : decode cX8_stepsOnce 2 = .ok (.iload_n 1, 1) := by decide +kernel
theorem dX8_stepsOnce_3 : decode cX8_stepsOnce 3 = .ok (.aload_n 0, 1) := by decide +kernel
theorem dX8_stepsOnce_4 : decode cX8_stepsOnce 4 = .ok (.getfield 77, 3) := by decide +kernel
theorem dX8_stepsOnce_7 : decode cX8_stepsOnce 7 = .ok (.if_icmp .ge 20, 3) := by decide +kernel
theorem dX8_stepsOnce_10 : decode cX8_stepsOnce 10 = .ok (.aload_n 0, 1) := by decide +kernel
theorem dX8_stepsOnce_11 : decode cX8_stepsOnce 11 = .ok (.getfield 25, 3) := by decide +kernel
theorem dX8_stepsOnce_14 : decode cX8_stepsOnce 14 = .ok (.iload_n 1, 1) := by decide +kernel
theorem dX8_stepsOnce_15 : decode cX8_stepsOnce 15 = .ok (.aload_n 0, 1) := by decide +kernel
theorem dX8_stepsOnce_16 : decode cX8_stepsOnce 16 = .ok (.iload_n 1, 1) := by decide +kernel
theorem dX8_stepsOnce_17 : decode cX8_stepsOnce 17 = .ok (.invokevirtual 139, 3) := by decide +kernel
theorem dX8_stepsOnce_20 : decode cX8_stepsOnce 20 = .ok (.iastore, 1) := by decide +kernel
theorem dX8_stepsOnce_21 : decode cX8_stepsOnce 21 = .ok (.iinc 1 1, 3) := by decide +kernel
theorem dX8_stepsOnce_24 : decode cX8_stepsOnce 24 = .ok (.goto (-22), 3) := by decide +kernel
theorem dX8_stepsOnce_27 : decode cX8_stepsOnce 27 = .ok (.iconst 0, 1) := by decide +kernel
theorem dX8_stepsOnce_28 : decode cX8_stepsOnce 28 = .ok (.istore_n 1, 1) := by decide +kernel
theorem dX8_stepsOnce_29 : decode cX8_stepsOnce 29 = .ok (.iload_n 1, 1) := by decide +kernel
theorem dX8_stepsOnce_30 : decode cX8_stepsOnce 30 = .ok (.aload_n 0, 1) := by decide +kernel
theorem dX8_stepsOnce_31 : decode cX8_stepsOnce 31 = .ok (.getfield 77, 3) := by decide +kernel
theorem dX8_stepsOnce_34 : decode cX8_stepsOnce 34 = .ok (.if_icmp .ge 21, 3) := by decide +kernel
theorem dX8_stepsOnce_37 : decode cX8_stepsOnce 37 = .ok (.aload_n 0, 1) := by decide +kernel
theorem dX8_stepsOnce_38 : decode cX8_stepsOnce 38 = .ok (.getfield 22, 3) := by decide +kernel
theorem dX8_stepsOnce_41 : decode cX8_stepsOnce 41 = .ok (.iload_n 1, 1) := by decide +kernel
theorem dX8_stepsOnce_42 : decode cX8_stepsOnce 42 = .ok (.aload_n 0, 1) := by decide +kernel
theorem dX8_stepsOnce_43 : decode cX8_stepsOnce 43 = .ok (.getfield 25, 3) := by decide +kernel
theorem dX8_stepsOnce_46 : decode cX8_stepsOnce 46 = .ok (.iload_n 1, 1) := by decide +kernel
theorem dX8_stepsOnce_47 : decode cX8_stepsOnce 47 = .ok (.iaload, 1) := by decide +kernel
theorem dX8_stepsOnce_48 : decode cX8_stepsOnce 48 = .ok (.iastore, 1) := by decide +kernel
theorem dX8_stepsOnce_49 : decode cX8_stepsOnce 49 = .ok (.iinc 1 1, 3) := by decide +kernel
theorem dX8_stepsOnce_52 : decode cX8_stepsOnce 52 = .ok (.goto (-23), 3) := by decide +kernel
theorem dX8_stepsOnce_55 : decode cX8_stepsOnce 55 = .ok (.return_, 1) := by decide +kernel
theorem dX8_takesNow_0 : decode cX8_takesNow 0 = .ok (.iconst 0, 1) := by decide +kernel
theorem dX8_takesNow_1 : decode cX8_takesNow 1 = .ok (.istore_n 1, 1) := by decide +kernel
theorem dX8_takesNow_2 : decode cX8_takesNow 2 = .ok (.iload_n 1, 1) := by decide +kernel
theorem dX8_takesNow_3 : decode cX8_takesNow 3 = .ok (.aload_n 0, 1) := by decide +kernel
theorem dX8_takesNow_4 : decode cX8_takesNow 4 = .ok (.getfield 77, 3) := by decide +kernel
theorem dX8_takesNow_7 : decode cX8_takesNow 7 = .ok (.if_icmp .ge 21, 3) := by decide +kernel
theorem dX8_takesNow_10 : decode cX8_takesNow 10 = .ok (.aload_n 0, 1) := by decide +kernel
theorem dX8_takesNow_11 : decode cX8_takesNow 11 = .ok (.getfield 22, 3) := by decide +kernel
theorem dX8_takesNow_14 : decode cX8_takesNow 14 = .ok (.iload_n 1, 1) := by decide +kernel
theorem dX8_takesNow_15 : decode cX8_takesNow 15 = .ok (.aload_n 0, 1) := by decide +kernel
theorem dX8_takesNow_16 : decode cX8_takesNow 16 = .ok (.getfield 13, 3) := by decide +kernel
theorem dX8_takesNow_19 : decode cX8_takesNow 19 = .ok (.iload_n 1, 1) := by decide +kernel
theorem dX8_takesNow_20 : decode cX8_takesNow 20 = .ok (.iaload, 1) := by decide +kernel
theorem dX8_takesNow_21 : decode cX8_takesNow 21 = .ok (.iastore, 1) := by decide +kernel
theorem dX8_takesNow_22 : decode cX8_takesNow 22 = .ok (.iinc 1 1, 3) := by decide +kernel
theorem dX8_takesNow_25 : decode cX8_takesNow 25 = .ok (.goto (-23), 3) := by decide +kernel
theorem dX8_takesNow_28 : decode cX8_takesNow 28 = .ok (.return_, 1) := by decide +kernel
theorem dX8_takesRow_0 : decode cX8_takesRow 0 = .ok (.iload_n 1, 1) := by decide +kernel
theorem dX8_takesRow_1 : decode cX8_takesRow 1 = .ok (.istore_n 2, 1) := by decide +kernel
theorem dX8_takesRow_2 : decode cX8_takesRow 2 = .ok (.aload_n 0, 1) := by decide +kernel
theorem dX8_takesRow_3 : decode cX8_takesRow 3 = .ok (.getfield 77, 3) := by decide +kernel
theorem dX8_takesRow_6 : decode cX8_takesRow 6 = .ok (.iconst 1, 1) := by decide +kernel
theorem dX8_takesRow_7 : decode cX8_takesRow 7 = .ok (.isub, 1) := by decide +kernel
theorem dX8_takesRow_8 : decode cX8_takesRow 8 = .ok (.istore_n 3, 1) := by decide +kernel
theorem dX8_takesRow_9 : decode cX8_takesRow 9 = .ok (.iload_n 3, 1) := by decide +kernel
theorem dX8_takesRow_10 : decode cX8_takesRow 10 = .ok (.ifCond .lt 28, 3) := by decide +kernel
theorem dX8_takesRow_13 : decode cX8_takesRow 13 = .ok (.aload_n 0, 1) := by decide +kernel
theorem dX8_takesRow_14 : decode cX8_takesRow 14 = .ok (.getfield 22, 3) := by decide +kernel
theorem dX8_takesRow_17 : decode cX8_takesRow 17 = .ok (.iload_n 3, 1) := by decide +kernel
theorem dX8_takesRow_18 : decode cX8_takesRow 18 = .ok (.iload_n 2, 1) := by decide +kernel
theorem dX8_takesRow_19 : decode cX8_takesRow 19 = .ok (.aload_n 0, 1) := by decide +kernel
theorem dX8_takesRow_20 : decode cX8_takesRow 20 = .ok (.getfield 127, 3) := by decide +kernel
theorem dX8_takesRow_23 : decode cX8_takesRow 23 = .ok (.irem, 1) := by decide +kernel
theorem dX8_takesRow_24 : decode cX8_takesRow 24 = .ok (.iastore, 1) := by decide +kernel
theorem dX8_takesRow_25 : decode cX8_takesRow 25 = .ok (.iload_n 2, 1) := by decide +kernel
theorem dX8_takesRow_26 : decode cX8_takesRow 26 = .ok (.aload_n 0, 1) := by decide +kernel
theorem dX8_takesRow_27 : decode cX8_takesRow 27 = .ok (.getfield 127, 3) := by decide +kernel
theorem dX8_takesRow_30 : decode cX8_takesRow 30 = .ok (.idiv, 1) := by decide +kernel
theorem dX8_takesRow_31 : decode cX8_takesRow 31 = .ok (.istore_n 2, 1) := by decide +kernel
theorem dX8_takesRow_32 : decode cX8_takesRow 32 = .ok (.iinc 3 (-1), 3) := by decide +kernel
theorem dX8_takesRow_35 : decode cX8_takesRow 35 = .ok (.goto (-26), 3) := by decide +kernel
theorem dX8_takesRow_38 : decode cX8_takesRow 38 = .ok (.return_, 1) := by decide +kernel
theorem dX8_rowAt_0 : decode cX8_rowAt 0 = .ok (.iconst 0, 1) := by decide +kernel
theorem dX8_rowAt_1 : decode cX8_rowAt 1 = .ok (.istore_n 1, 1) := by decide +kernel
theorem dX8_rowAt_2 : decode cX8_rowAt 2 = .ok (.iconst 0, 1) := by decide +kernel
theorem dX8_rowAt_3 : decode cX8_rowAt 3 = .ok (.istore_n 2, 1) := by decide +kernel
theorem dX8_rowAt_4 : decode cX8_rowAt 4 = .ok (.iload_n 2, 1) := by decide +kernel
theorem dX8_rowAt_5 : decode cX8_rowAt 5 = .ok (.aload_n 0, 1) := by decide +kernel
theorem dX8_rowAt_6 : decode cX8_rowAt 6 = .ok (.getfield 77, 3) := by decide +kernel
theorem dX8_rowAt_9 : decode cX8_rowAt 9 = .ok (.if_icmp .ge 23, 3) := by decide +kernel
theorem dX8_rowAt_12 : decode cX8_rowAt 12 = .ok (.aload_n 0, 1) := by decide +kernel
theorem dX8_rowAt_13 : decode cX8_rowAt 13 = .ok (.getfield 127, 3) := by decide +kernel
theorem dX8_rowAt_16 : decode cX8_rowAt 16 = .ok (.iload_n 1, 1) := by decide +kernel
theorem dX8_rowAt_17 : decode cX8_rowAt 17 = .ok (.imul, 1) := by decide +kernel
theorem dX8_rowAt_18 : decode cX8_rowAt 18 = .ok (.aload_n 0, 1) := by decide +kernel
theorem dX8_rowAt_19 : decode cX8_rowAt 19 = .ok (.getfield 22, 3) := by decide +kernel
theorem dX8_rowAt_22 : decode cX8_rowAt 22 = .ok (.iload_n 2, 1) := by decide +kernel
theorem dX8_rowAt_23 : decode cX8_rowAt 23 = .ok (.iaload, 1) := by decide +kernel
theorem dX8_rowAt_24 : decode cX8_rowAt 24 = .ok (.iadd, 1) := by decide +kernel
theorem dX8_rowAt_25 : decode cX8_rowAt 25 = .ok (.istore_n 1, 1) := by decide +kernel
theorem dX8_rowAt_26 : decode cX8_rowAt 26 = .ok (.iinc 2 1, 3) := by decide +kernel
theorem dX8_rowAt_29 : decode cX8_rowAt 29 = .ok (.goto (-25), 3) := by decide +kernel
theorem dX8_rowAt_32 : decode cX8_rowAt 32 = .ok (.iload_n 1, 1) := by decide +kernel
theorem dX8_rowAt_33 : decode cX8_rowAt 33 = .ok (.ireturn, 1) := by decide +kernel
theorem dX8_rowNow_0 : decode cX8_rowNow 0 = .ok (.aload_n 0, 1) := by decide +kernel
theorem dX8_rowNow_1 : decode cX8_rowNow 1 = .ok (.invokevirtual 142, 3) := by decide +kernel
theorem dX8_rowNow_4 : decode cX8_rowNow 4 = .ok (.aload_n 0, 1) := by decide +kernel
theorem dX8_rowNow_5 : decode cX8_rowNow 5 = .ok (.invokevirtual 145, 3) := by decide +kernel
theorem dX8_rowNow_8 : decode cX8_rowNow 8 = .ok (.ireturn, 1) := by decide +kernel
theorem dX8_allRows_0 : decode cX8_allRows 0 = .ok (.iconst 1, 1) := by decide +kernel
theorem dX8_allRows_1 : decode cX8_allRows 1 = .ok (.istore_n 1, 1) := by decide +kernel
theorem dX8_allRows_2 : decode cX8_allRows 2 = .ok (.iconst 0, 1) := by decide +kernel
theorem dX8_allRows_3 : decode cX8_allRows 3 = .ok (.istore_n 2, 1) := by decide +kernel
theorem dX8_allRows_4 : decode cX8_allRows 4 = .ok (.iload_n 2, 1) := by decide +kernel
theorem dX8_allRows_5 : decode cX8_allRows 5 = .ok (.aload_n 0, 1) := by decide +kernel
theorem dX8_allRows_6 : decode cX8_allRows 6 = .ok (.getfield 77, 3) := by decide +kernel
theorem dX8_allRows_9 : decode cX8_allRows 9 = .ok (.if_icmp .ge 16, 3) := by decide +kernel
theorem dX8_allRows_12 : decode cX8_allRows 12 = .ok (.iload_n 1, 1) := by decide +kernel
theorem dX8_allRows_13 : decode cX8_allRows 13 = .ok (.aload_n 0, 1) := by decide +kernel
theorem dX8_allRows_14 : decode cX8_allRows 14 = .ok (.getfield 127, 3) := by decide +kernel
theorem dX8_allRows_17 : decode cX8_allRows 17 = .ok (.imul, 1) := by decide +kernel
theorem dX8_allRows_18 : decode cX8_allRows 18 = .ok (.istore_n 1, 1) := by decide +kernel
theorem dX8_allRows_19 : decode cX8_allRows 19 = .ok (.iinc 2 1, 3) := by decide +kernel
theorem dX8_allRows_22 : decode cX8_allRows 22 = .ok (.goto (-18), 3) := by decide +kernel
theorem dX8_allRows_25 : decode cX8_allRows 25 = .ok (.iload_n 1, 1) := by decide +kernel
theorem dX8_allRows_26 : decode cX8_allRows 26 = .ok (.ireturn, 1) := by decide +kernel
theorem dX8_ofPlace_0 : decode cX8_ofPlace 0 = .ok (.aload_n 0, 1) := by decide +kernel
theorem dX8_ofPlace_1 : decode cX8_ofPlace 1 = .ok (.iload_n 1, 1) := by decide +kernel
theorem dX8_ofPlace_2 : decode cX8_ofPlace 2 = .ok (.invokevirtual 149, 3) := by decide +kernel
theorem dX8_ofPlace_5 : decode cX8_ofPlace 5 = .ok (.ifCond .eq 5, 3) := by decide +kernel
theorem dX8_ofPlace_8 : decode cX8_ofPlace 8 = .ok (.iconst (-1), 1) := by decide +kernel
theorem dX8_ofPlace_9 : decode cX8_ofPlace 9 = .ok (.ireturn, 1) := by decide +kernel
theorem dX8_ofPlace_10 : decode cX8_ofPlace 10 = .ok (.aload_n 0, 1) := by decide +kernel
theorem dX8_ofPlace_11 : decode cX8_ofPlace 11 = .ok (.invokevirtual 142, 3) := by decide +kernel
theorem dX8_ofPlace_14 : decode cX8_ofPlace 14 = .ok (.iload_n 2, 1) := by decide +kernel
theorem dX8_ofPlace_15 : decode cX8_ofPlace 15 = .ok (.ifCond .ne 12, 3) := by decide +kernel
theorem dX8_ofPlace_18 : decode cX8_ofPlace 18 = .ok (.aload_n 0, 1) := by decide +kernel
theorem dX8_ofPlace_19 : decode cX8_ofPlace 19 = .ok (.getfield 7, 3) := by decide +kernel
theorem dX8_ofPlace_22 : decode cX8_ofPlace 22 = .ok (.iload_n 1, 1) := by decide +kernel
theorem dX8_ofPlace_23 : decode cX8_ofPlace 23 = .ok (.iaload, 1) := by decide +kernel
theorem dX8_ofPlace_24 : decode cX8_ofPlace 24 = .ok (.goto 32, 3) := by decide +kernel
theorem dX8_ofPlace_27 : decode cX8_ofPlace 27 = .ok (.iload_n 2, 1) := by decide +kernel
theorem dX8_ofPlace_28 : decode cX8_ofPlace 28 = .ok (.iconst 1, 1) := by decide +kernel
theorem dX8_ofPlace_29 : decode cX8_ofPlace 29 = .ok (.if_icmp .ne 12, 3) := by decide +kernel
theorem dX8_ofPlace_32 : decode cX8_ofPlace 32 = .ok (.aload_n 0, 1) := by decide +kernel
theorem dX8_ofPlace_33 : decode cX8_ofPlace 33 = .ok (.getfield 13, 3) := by decide +kernel
theorem dX8_ofPlace_36 : decode cX8_ofPlace 36 = .ok (.iload_n 1, 1) := by decide +kernel
theorem dX8_ofPlace_37 : decode cX8_ofPlace 37 = .ok (.iaload, 1) := by decide +kernel
theorem dX8_ofPlace_38 : decode cX8_ofPlace 38 = .ok (.goto 18, 3) := by decide +kernel
theorem dX8_ofPlace_41 : decode cX8_ofPlace 41 = .ok (.iload_n 2, 1) := by decide +kernel
theorem dX8_ofPlace_42 : decode cX8_ofPlace 42 = .ok (.iconst 2, 1) := by decide +kernel
theorem dX8_ofPlace_43 : decode cX8_ofPlace 43 = .ok (.if_icmp .ne 11, 3) := by decide +kernel
theorem dX8_ofPlace_46 : decode cX8_ofPlace 46 = .ok (.aload_n 0, 1) := by decide +kernel
theorem dX8_ofPlace_47 : decode cX8_ofPlace 47 = .ok (.iload_n 1, 1) := by decide +kernel
theorem dX8_ofPlace_48 : decode cX8_ofPlace 48 = .ok (.invokevirtual 139, 3) := by decide +kernel
theorem dX8_ofPlace_51 : decode cX8_ofPlace 51 = .ok (.goto 5, 3) := by decide +kernel
theorem dX8_ofPlace_54 : decode cX8_ofPlace 54 = .ok (.bipush (-2), 2) := by decide +kernel
theorem dX8_ofPlace_56 : decode cX8_ofPlace 56 = .ok (.ireturn, 1) := by decide +kernel
theorem dX8_isNumber_0 : decode cX8_isNumber 0 = .ok (.iload_n 1, 1) := by decide +kernel
theorem dX8_isNumber_1 : decode cX8_isNumber 1 = .ok (.i2l, 1) := by decide +kernel
theorem dX8_isNumber_2 : decode cX8_isNumber 2 = .ok (.lconst 0, 1) := by decide +kernel
theorem dX8_isNumber_3 : decode cX8_isNumber 3 = .ok (.aload_n 0, 1) := by decide +kernel
theorem dX8_isNumber_4 : decode cX8_isNumber 4 = .ok (.getfield 127, 3) := by decide +kernel
theorem dX8_isNumber_7 : decode cX8_isNumber 7 = .ok (.i2l, 1) := by decide +kernel
theorem dX8_isNumber_8 : decode cX8_isNumber 8 = .ok (.lconst 1, 1) := by decide +kernel
theorem dX8_isNumber_9 : decode cX8_isNumber 9 = .ok (.lsub, 1) := by decide +kernel
theorem dX8_isNumber_10 : decode cX8_isNumber 10 = .ok (.invokestatic 80, 3) := by decide +kernel
theorem dX8_isNumber_13 : decode cX8_isNumber 13 = .ok (.ireturn, 1) := by decide +kernel
theorem dX8_write_0 : decode cX8_write 0 = .ok (.aload_n 0, 1) := by decide +kernel
theorem dX8_write_1 : decode cX8_write 1 = .ok (.iload_n 1, 1) := by decide +kernel
theorem dX8_write_2 : decode cX8_write 2 = .ok (.invokevirtual 149, 3) := by decide +kernel
theorem dX8_write_5 : decode cX8_write 5 = .ok (.ifCond .eq 5, 3) := by decide +kernel
theorem dX8_write_8 : decode cX8_write 8 = .ok (.iconst (-1), 1) := by decide +kernel
theorem dX8_write_9 : decode cX8_write 9 = .ok (.ireturn, 1) := by decide +kernel
theorem dX8_write_10 : decode cX8_write 10 = .ok (.aload_n 0, 1) := by decide +kernel
theorem dX8_write_11 : decode cX8_write 11 = .ok (.iload_n 2, 1) := by decide +kernel
theorem dX8_write_12 : decode cX8_write 12 = .ok (.invokevirtual 152, 3) := by decide +kernel
theorem dX8_write_15 : decode cX8_write 15 = .ok (.ifCond .ne 6, 3) := by decide +kernel
theorem dX8_write_18 : decode cX8_write 18 = .ok (.bipush (-2), 2) := by decide +kernel
theorem dX8_write_20 : decode cX8_write 20 = .ok (.ireturn, 1) := by decide +kernel
theorem dX8_write_21 : decode cX8_write 21 = .ok (.aload_n 0, 1) := by decide +kernel
theorem dX8_write_22 : decode cX8_write 22 = .ok (.getfield 13, 3) := by decide +kernel
theorem dX8_write_25 : decode cX8_write 25 = .ok (.iload_n 1, 1) := by decide +kernel
theorem dX8_write_26 : decode cX8_write 26 = .ok (.iaload, 1) := by decide +kernel
theorem dX8_write_27 : decode cX8_write 27 = .ok (.istore_n 3, 1) := by decide +kernel
theorem dX8_write_28 : decode cX8_write 28 = .ok (.aload_n 0, 1) := by decide +kernel
theorem dX8_write_29 : decode cX8_write 29 = .ok (.getfield 13, 3) := by decide +kernel
theorem dX8_write_32 : decode cX8_write 32 = .ok (.iload_n 1, 1) := by decide +kernel
theorem dX8_write_33 : decode cX8_write 33 = .ok (.iload_n 2, 1) := by decide +kernel
theorem dX8_write_34 : decode cX8_write 34 = .ok (.iastore, 1) := by decide +kernel
theorem dX8_write_35 : decode cX8_write 35 = .ok (.iload_n 3, 1) := by decide +kernel
theorem dX8_write_36 : decode cX8_write 36 = .ok (.ireturn, 1) := by decide +kernel
theorem dX8_zeros_0 : decode cX8_zeros 0 = .ok (.iconst 0, 1) := by decide +kernel
theorem dX8_zeros_1 : decode cX8_zeros 1 = .ok (.istore_n 1, 1) := by decide +kernel
theorem dX8_zeros_2 : decode cX8_zeros 2 = .ok (.iconst 0, 1) := by decide +kernel
theorem dX8_zeros_3 : decode cX8_zeros 3 = .ok (.istore_n 2, 1) := by decide +kernel
theorem dX8_zeros_4 : decode cX8_zeros 4 = .ok (.iload_n 2, 1) := by decide +kernel
theorem dX8_zeros_5 : decode cX8_zeros 5 = .ok (.aload_n 0, 1) := by decide +kernel
theorem dX8_zeros_6 : decode cX8_zeros 6 = .ok (.getfield 77, 3) := by decide +kernel
theorem dX8_zeros_9 : decode cX8_zeros 9 = .ok (.if_icmp .ge 26, 3) := by decide +kernel
theorem dX8_zeros_12 : decode cX8_zeros 12 = .ok (.iload_n 1, 1) := by decide +kernel
theorem dX8_zeros_13 : decode cX8_zeros 13 = .ok (.aload_n 0, 1) := by decide +kernel
theorem dX8_zeros_14 : decode cX8_zeros 14 = .ok (.getfield 13, 3) := by decide +kernel
theorem dX8_zeros_17 : decode cX8_zeros 17 = .ok (.iload_n 2, 1) := by decide +kernel
theorem dX8_zeros_18 : decode cX8_zeros 18 = .ok (.iaload, 1) := by decide +kernel
theorem dX8_zeros_19 : decode cX8_zeros 19 = .ok (.ifCond .ne 7, 3) := by decide +kernel
theorem dX8_zeros_22 : decode cX8_zeros 22 = .ok (.iconst 1, 1) := by decide +kernel
theorem dX8_zeros_23 : decode cX8_zeros 23 = .ok (.goto 4, 3) := by decide +kernel
theorem dX8_zeros_26 : decode cX8_zeros 26 = .ok (.iconst 0, 1) := by decide +kernel
theorem dX8_zeros_27 : decode cX8_zeros 27 = .ok (.iadd, 1) := by decide +kernel
theorem dX8_zeros_28 : decode cX8_zeros 28 = .ok (.istore_n 1, 1) := by decide +kernel
theorem dX8_zeros_29 : decode cX8_zeros 29 = .ok (.iinc 2 1, 3) := by decide +kernel
theorem dX8_zeros_32 : decode cX8_zeros 32 = .ok (.goto (-28), 3) := by decide +kernel
theorem dX8_zeros_35 : decode cX8_zeros 35 = .ok (.iload_n 1, 1) := by decide +kernel
theorem dX8_zeros_36 : decode cX8_zeros 36 = .ok (.ireturn, 1) := by decide +kernel
theorem dX8_doesSteps_0 : decode cX8_doesSteps 0 = .ok (.aload_n 0, 1) := by decide +kernel
theorem dX8_doesSteps_1 : decode cX8_doesSteps 1 = .ok (.invokevirtual 142, 3) := by decide +kernel
theorem dX8_doesSteps_4 : decode cX8_doesSteps 4 = .ok (.iconst 0, 1) := by decide +kernel
theorem dX8_doesSteps_5 : decode cX8_doesSteps 5 = .ok (.istore_n 2, 1) := by decide +kernel
theorem dX8_doesSteps_6 : decode cX8_doesSteps 6 = .ok (.iload_n 2, 1) := by decide +kernel
theorem dX8_doesSteps_7 : decode cX8_doesSteps 7 = .ok (.iload_n 1, 1) := by decide +kernel
theorem dX8_doesSteps_8 : decode cX8_doesSteps 8 = .ok (.if_icmp .ge 13, 3) := by decide +kernel
theorem dX8_doesSteps_11 : decode cX8_doesSteps 11 = .ok (.aload_n 0, 1) := by decide +kernel
theorem dX8_doesSteps_12 : decode cX8_doesSteps 12 = .ok (.invokevirtual 155, 3) := by decide +kernel
theorem dX8_doesSteps_15 : decode cX8_doesSteps 15 = .ok (.iinc 2 1, 3) := by decide +kernel
theorem dX8_doesSteps_18 : decode cX8_doesSteps 18 = .ok (.goto (-12), 3) := by decide +kernel
theorem dX8_doesSteps_21 : decode cX8_doesSteps 21 = .ok (.iconst 0, 1) := by decide +kernel
theorem dX8_doesSteps_22 : decode cX8_doesSteps 22 = .ok (.istore_n 2, 1) := by decide +kernel
theorem dX8_doesSteps_23 : decode cX8_doesSteps 23 = .ok (.iload_n 2, 1) := by decide +kernel
theorem dX8_doesSteps_24 : decode cX8_doesSteps 24 = .ok (.aload_n 0, 1) := by decide +kernel
theorem dX8_doesSteps_25 : decode cX8_doesSteps 25 = .ok (.getfield 77, 3) := by decide +kernel
theorem dX8_doesSteps_28 : decode cX8_doesSteps 28 = .ok (.if_icmp .ge 21, 3) := by decide +kernel
theorem dX8_doesSteps_31 : decode cX8_doesSteps 31 = .ok (.aload_n 0, 1) := by decide +kernel
theorem dX8_doesSteps_32 : decode cX8_doesSteps 32 = .ok (.getfield 13, 3) := by decide +kernel
theorem dX8_doesSteps_35 : decode cX8_doesSteps 35 = .ok (.iload_n 2, 1) := by decide +kernel
theorem dX8_doesSteps_36 : decode cX8_doesSteps 36 = .ok (.aload_n 0, 1) := by decide +kernel
theorem dX8_doesSteps_37 : decode cX8_doesSteps 37 = .ok (.getfield 22, 3) := by decide +kernel
theorem dX8_doesSteps_40 : decode cX8_doesSteps 40 = .ok (.iload_n 2, 1) := by decide +kernel
theorem dX8_doesSteps_41 : decode cX8_doesSteps 41 = .ok (.iaload, 1) := by decide +kernel
theorem dX8_doesSteps_42 : decode cX8_doesSteps 42 = .ok (.iastore, 1) := by decide +kernel
theorem dX8_doesSteps_43 : decode cX8_doesSteps 43 = .ok (.iinc 2 1, 3) := by decide +kernel
theorem dX8_doesSteps_46 : decode cX8_doesSteps 46 = .ok (.goto (-23), 3) := by decide +kernel
theorem dX8_doesSteps_49 : decode cX8_doesSteps 49 = .ok (.return_, 1) := by decide +kernel
theorem dX8_steps_0 : decode cX8_steps 0 = .ok (.iload_n 1, 1) := by decide +kernel
theorem dX8_steps_1 : decode cX8_steps 1 = .ok (.i2l, 1) := by decide +kernel
theorem dX8_steps_2 : decode cX8_steps 2 = .ok (.lconst 1, 1) := by decide +kernel
theorem dX8_steps_3 : decode cX8_steps 3 = .ok (.ldc2_w 158, 3) := by decide +kernel
theorem dX8_steps_6 : decode cX8_steps 6 = .ok (.invokestatic 80, 3) := by decide +kernel
theorem dX8_steps_9 : decode cX8_steps 9 = .ok (.ifCond .ne 6, 3) := by decide +kernel
theorem dX8_steps_12 : decode cX8_steps 12 = .ok (.bipush (-2), 2) := by decide +kernel
theorem dX8_steps_14 : decode cX8_steps 14 = .ok (.ireturn, 1) := by decide +kernel
theorem dX8_steps_15 : decode cX8_steps 15 = .ok (.aload_n 0, 1) := by decide +kernel
theorem dX8_steps_16 : decode cX8_steps 16 = .ok (.getfield 77, 3) := by decide +kernel
theorem dX8_steps_19 : decode cX8_steps 19 = .ok (.ifCond .ne 6, 3) := by decide +kernel
theorem dX8_steps_22 : decode cX8_steps 22 = .ok (.bipush (-3), 2) := by decide +kernel
theorem dX8_steps_24 : decode cX8_steps 24 = .ok (.ireturn, 1) := by decide +kernel
theorem dX8_steps_25 : decode cX8_steps 25 = .ok (.aload_n 0, 1) := by decide +kernel
theorem dX8_steps_26 : decode cX8_steps 26 = .ok (.iload_n 1, 1) := by decide +kernel
theorem dX8_steps_27 : decode cX8_steps 27 = .ok (.invokevirtual 160, 3) := by decide +kernel
theorem dX8_steps_30 : decode cX8_steps 30 = .ok (.aload_n 0, 1) := by decide +kernel
theorem dX8_steps_31 : decode cX8_steps 31 = .ok (.dup, 1) := by decide +kernel
theorem dX8_steps_32 : decode cX8_steps 32 = .ok (.getfield 130, 3) := by decide +kernel
theorem dX8_steps_35 : decode cX8_steps 35 = .ok (.iload_n 1, 1) := by decide +kernel
theorem dX8_steps_36 : decode cX8_steps 36 = .ok (.iadd, 1) := by decide +kernel
theorem dX8_steps_37 : decode cX8_steps 37 = .ok (.putfield 130, 3) := by decide +kernel
theorem dX8_steps_40 : decode cX8_steps 40 = .ok (.aload_n 0, 1) := by decide +kernel
theorem dX8_steps_41 : decode cX8_steps 41 = .ok (.invokevirtual 164, 3) := by decide +kernel
theorem dX8_steps_44 : decode cX8_steps 44 = .ok (.ireturn, 1) := by decide +kernel
theorem dX8_takesAway_0 : decode cX8_takesAway 0 = .ok (.aload_n 0, 1) := by decide +kernel
theorem dX8_takesAway_1 : decode cX8_takesAway 1 = .ok (.getfield 34, 3) := by decide +kernel
theorem dX8_takesAway_4 : decode cX8_takesAway 4 = .ok (.aload_n 0, 1) := by decide +kernel
theorem dX8_takesAway_5 : decode cX8_takesAway 5 = .ok (.getfield 167, 3) := by decide +kernel
theorem dX8_takesAway_8 : decode cX8_takesAway 8 = .ok (.iload_n 1, 1) := by decide +kernel
theorem dX8_takesAway_9 : decode cX8_takesAway 9 = .ok (.iastore, 1) := by decide +kernel
theorem dX8_takesAway_10 : decode cX8_takesAway 10 = .ok (.aload_n 0, 1) := by decide +kernel
theorem dX8_takesAway_11 : decode cX8_takesAway 11 = .ok (.dup, 1) := by decide +kernel
theorem dX8_takesAway_12 : decode cX8_takesAway 12 = .ok (.getfield 167, 3) := by decide +kernel
theorem dX8_takesAway_15 : decode cX8_takesAway 15 = .ok (.iconst 1, 1) := by decide +kernel
theorem dX8_takesAway_16 : decode cX8_takesAway 16 = .ok (.iadd, 1) := by decide +kernel
theorem dX8_takesAway_17 : decode cX8_takesAway 17 = .ok (.putfield 167, 3) := by decide +kernel
theorem dX8_takesAway_20 : decode cX8_takesAway 20 = .ok (.return_, 1) := by decide +kernel
theorem dX8_tables_0 : decode cX8_tables 0 = .ok (.aload_n 0, 1) := by decide +kernel
theorem dX8_tables_1 : decode cX8_tables 1 = .ok (.invokevirtual 170, 3) := by decide +kernel
theorem dX8_tables_4 : decode cX8_tables 4 = .ok (.istore_n 1, 1) := by decide +kernel
theorem dX8_tables_5 : decode cX8_tables 5 = .ok (.iconst 0, 1) := by decide +kernel
theorem dX8_tables_6 : decode cX8_tables 6 = .ok (.istore_n 2, 1) := by decide +kernel
theorem dX8_tables_7 : decode cX8_tables 7 = .ok (.iload_n 2, 1) := by decide +kernel
theorem dX8_tables_8 : decode cX8_tables 8 = .ok (.iload_n 1, 1) := by decide +kernel
theorem dX8_tables_9 : decode cX8_tables 9 = .ok (.if_icmp .ge 38, 3) := by decide +kernel
theorem dX8_tables_12 : decode cX8_tables 12 = .ok (.aload_n 0, 1) := by decide +kernel
theorem dX8_tables_13 : decode cX8_tables 13 = .ok (.getfield 31, 3) := by decide +kernel
theorem dX8_tables_16 : decode cX8_tables 16 = .ok (.iload_n 2, 1) := by decide +kernel
theorem dX8_tables_17 : decode cX8_tables 17 = .ok (.iconst 0, 1) := by decide +kernel
theorem dX8_tables_18 : decode cX8_tables 18 = .ok (.iastore, 1) := by decide +kernel
theorem dX8_tables_19 : decode cX8_tables 19 = .ok (.aload_n 0, 1) := by decide +kernel
theorem dX8_tables_20 : decode cX8_tables 20 = .ok (.getfield 37, 3) := by decide +kernel
theorem dX8_tables_23 : decode cX8_tables 23 = .ok (.iload_n 2, 1) := by decide +kernel
theorem dX8_tables_24 : decode cX8_tables 24 = .ok (.iconst 0, 1) := by decide +kernel
theorem dX8_tables_25 : decode cX8_tables 25 = .ok (.iastore, 1) := by decide +kernel
theorem dX8_tables_26 : decode cX8_tables 26 = .ok (.aload_n 0, 1) := by decide +kernel
theorem dX8_tables_27 : decode cX8_tables 27 = .ok (.getfield 40, 3) := by decide +kernel
theorem dX8_tables_30 : decode cX8_tables 30 = .ok (.iload_n 2, 1) := by decide +kernel
theorem dX8_tables_31 : decode cX8_tables 31 = .ok (.iload_n 2, 1) := by decide +kernel
theorem dX8_tables_32 : decode cX8_tables 32 = .ok (.ifCond .ne 7, 3) := by decide +kernel
theorem dX8_tables_35 : decode cX8_tables 35 = .ok (.iconst 1, 1) := by decide +kernel
theorem dX8_tables_36 : decode cX8_tables 36 = .ok (.goto 4, 3) := by decide +kernel
theorem dX8_tables_39 : decode cX8_tables 39 = .ok (.iconst 0, 1) := by decide +kernel
theorem dX8_tables_40 : decode cX8_tables 40 = .ok (.iastore, 1) := by decide +kernel
theorem dX8_tables_41 : decode cX8_tables 41 = .ok (.iinc 2 1, 3) := by decide +kernel
theorem dX8_tables_44 : decode cX8_tables 44 = .ok (.goto (-37), 3) := by decide +kernel
theorem dX8_tables_47 : decode cX8_tables 47 = .ok (.iconst 0, 1) := by decide +kernel
theorem dX8_tables_48 : decode cX8_tables 48 = .ok (.istore_n 2, 1) := by decide +kernel
theorem dX8_tables_49 : decode cX8_tables 49 = .ok (.iload_n 2, 1) := by decide +kernel
theorem dX8_tables_50 : decode cX8_tables 50 = .ok (.iload_n 1, 1) := by decide +kernel
theorem dX8_tables_51 : decode cX8_tables 51 = .ok (.if_icmp .ge 43, 3) := by decide +kernel
theorem dX8_tables_54 : decode cX8_tables 54 = .ok (.aload_n 0, 1) := by decide +kernel
theorem dX8_tables_55 : decode cX8_tables 55 = .ok (.iload_n 2, 1) := by decide +kernel
theorem dX8_tables_56 : decode cX8_tables 56 = .ok (.invokevirtual 173, 3) := by decide +kernel
theorem dX8_tables_59 : decode cX8_tables 59 = .ok (.aload_n 0, 1) := by decide +kernel
theorem dX8_tables_60 : decode cX8_tables 60 = .ok (.invokevirtual 155, 3) := by decide +kernel
theorem dX8_tables_63 : decode cX8_tables 63 = .ok (.aload_n 0, 1) := by decide +kernel
theorem dX8_tables_64 : decode cX8_tables 64 = .ok (.getfield 28, 3) := by decide +kernel
theorem dX8_tables_67 : decode cX8_tables 67 = .ok (.iload_n 2, 1) := by decide +kernel
theorem dX8_tables_68 : decode cX8_tables 68 = .ok (.aload_n 0, 1) := by decide +kernel
theorem dX8_tables_69 : decode cX8_tables 69 = .ok (.invokevirtual 145, 3) := by decide +kernel
theorem dX8_tables_72 : decode cX8_tables 72 = .ok (.iastore, 1) := by decide +kernel
theorem dX8_tables_73 : decode cX8_tables 73 = .ok (.aload_n 0, 1) := by decide +kernel
theorem dX8_tables_74 : decode cX8_tables 74 = .ok (.getfield 31, 3) := by decide +kernel
theorem dX8_tables_77 : decode cX8_tables 77 = .ok (.aload_n 0, 1) := by decide +kernel
theorem dX8_tables_78 : decode cX8_tables 78 = .ok (.getfield 28, 3) := by decide +kernel
theorem dX8_tables_81 : decode cX8_tables 81 = .ok (.iload_n 2, 1) := by decide +kernel
theorem dX8_tables_82 : decode cX8_tables 82 = .ok (.iaload, 1) := by decide +kernel
theorem dX8_tables_83 : decode cX8_tables 83 = .ok (.dup2, 1) := by decide +kernel
theorem dX8_tables_84 : decode cX8_tables 84 = .ok (.iaload, 1) := by decide +kernel
theorem dX8_tables_85 : decode cX8_tables 85 = .ok (.iconst 1, 1) := by decide +kernel
theorem dX8_tables_86 : decode cX8_tables 86 = .ok (.iadd, 1) := by decide +kernel
theorem dX8_tables_87 : decode cX8_tables 87 = .ok (.iastore, 1) := by decide +kernel
theorem dX8_tables_88 : decode cX8_tables 88 = .ok (.iinc 2 1, 3) := by decide +kernel
theorem dX8_tables_91 : decode cX8_tables 91 = .ok (.goto (-42), 3) := by decide +kernel
theorem dX8_tables_94 : decode cX8_tables 94 = .ok (.aload_n 0, 1) := by decide +kernel
theorem dX8_tables_95 : decode cX8_tables 95 = .ok (.iconst 0, 1) := by decide +kernel
theorem dX8_tables_96 : decode cX8_tables 96 = .ok (.putfield 167, 3) := by decide +kernel
theorem dX8_tables_99 : decode cX8_tables 99 = .ok (.iconst 0, 1) := by decide +kernel
theorem dX8_tables_100 : decode cX8_tables 100 = .ok (.istore_n 2, 1) := by decide +kernel
theorem dX8_tables_101 : decode cX8_tables 101 = .ok (.iload_n 2, 1) := by decide +kernel
theorem dX8_tables_102 : decode cX8_tables 102 = .ok (.iload_n 1, 1) := by decide +kernel
theorem dX8_tables_103 : decode cX8_tables 103 = .ok (.if_icmp .ge 23, 3) := by decide +kernel
theorem dX8_tables_106 : decode cX8_tables 106 = .ok (.aload_n 0, 1) := by decide +kernel
theorem dX8_tables_107 : decode cX8_tables 107 = .ok (.getfield 31, 3) := by decide +kernel
theorem dX8_tables_110 : decode cX8_tables 110 = .ok (.iload_n 2, 1) := by decide +kernel
theorem dX8_tables_111 : decode cX8_tables 111 = .ok (.iaload, 1) := by decide +kernel
theorem dX8_tables_112 : decode cX8_tables 112 = .ok (.ifCond .ne 8, 3) := by decide +kernel
theorem dX8_tables_115 : decode cX8_tables 115 = .ok (.aload_n 0, 1) := by decide +kernel
theorem dX8_tables_116 : decode cX8_tables 116 = .ok (.iload_n 2, 1) := by decide +kernel
theorem dX8_tables_117 : decode cX8_tables 117 = .ok (.invokevirtual 176, 3) := by decide +kernel
theorem dX8_tables_120 : decode cX8_tables 120 = .ok (.iinc 2 1, 3) := by decide +kernel
theorem dX8_tables_123 : decode cX8_tables 123 = .ok (.goto (-22), 3) := by decide +kernel
theorem dX8_tables_126 : decode cX8_tables 126 = .ok (.aload_n 0, 1) := by decide +kernel
theorem dX8_tables_127 : decode cX8_tables 127 = .ok (.aload_n 0, 1) := by decide +kernel
theorem dX8_tables_128 : decode cX8_tables 128 = .ok (.getfield 167, 3) := by decide +kernel
theorem dX8_tables_131 : decode cX8_tables 131 = .ok (.putfield 179, 3) := by decide +kernel
theorem dX8_tables_134 : decode cX8_tables 134 = .ok (.iconst 0, 1) := by decide +kernel
theorem dX8_tables_135 : decode cX8_tables 135 = .ok (.istore_n 2, 1) := by decide +kernel
theorem dX8_tables_136 : decode cX8_tables 136 = .ok (.iload_n 2, 1) := by decide +kernel
theorem dX8_tables_137 : decode cX8_tables 137 = .ok (.aload_n 0, 1) := by decide +kernel
theorem dX8_tables_138 : decode cX8_tables 138 = .ok (.getfield 167, 3) := by decide +kernel
theorem dX8_tables_141 : decode cX8_tables 141 = .ok (.if_icmp .ge 45, 3) := by decide +kernel
theorem dX8_tables_144 : decode cX8_tables 144 = .ok (.aload_n 0, 1) := by decide +kernel
theorem dX8_tables_145 : decode cX8_tables 145 = .ok (.getfield 28, 3) := by decide +kernel
theorem dX8_tables_148 : decode cX8_tables 148 = .ok (.aload_n 0, 1) := by decide +kernel
theorem dX8_tables_149 : decode cX8_tables 149 = .ok (.getfield 34, 3) := by decide +kernel
theorem dX8_tables_152 : decode cX8_tables 152 = .ok (.iload_n 2, 1) := by decide +kernel
theorem dX8_tables_153 : decode cX8_tables 153 = .ok (.iaload, 1) := by decide +kernel
theorem dX8_tables_154 : decode cX8_tables 154 = .ok (.iaload, 1) := by decide +kernel
theorem dX8_tables_155 : decode cX8_tables 155 = .ok (.istore_n 3, 1) := by decide +kernel
theorem dX8_tables_156 : decode cX8_tables 156 = .ok (.aload_n 0, 1) := by decide +kernel
theorem dX8_tables_157 : decode cX8_tables 157 = .ok (.getfield 31, 3) := by decide +kernel
theorem dX8_tables_160 : decode cX8_tables 160 = .ok (.iload_n 3, 1) := by decide +kernel
theorem dX8_tables_161 : decode cX8_tables 161 = .ok (.dup2, 1) := by decide +kernel
theorem dX8_tables_162 : decode cX8_tables 162 = .ok (.iaload, 1) := by decide +kernel
theorem dX8_tables_163 : decode cX8_tables 163 = .ok (.iconst 1, 1) := by decide +kernel
theorem dX8_tables_164 : decode cX8_tables 164 = .ok (.isub, 1) := by decide +kernel
theorem dX8_tables_165 : decode cX8_tables 165 = .ok (.iastore, 1) := by decide +kernel
theorem dX8_tables_166 : decode cX8_tables 166 = .ok (.aload_n 0, 1) := by decide +kernel
theorem dX8_tables_167 : decode cX8_tables 167 = .ok (.getfield 31, 3) := by decide +kernel
theorem dX8_tables_170 : decode cX8_tables 170 = .ok (.iload_n 3, 1) := by decide +kernel
theorem dX8_tables_171 : decode cX8_tables 171 = .ok (.iaload, 1) := by decide +kernel
theorem dX8_tables_172 : decode cX8_tables 172 = .ok (.ifCond .ne 8, 3) := by decide +kernel
theorem dX8_tables_175 : decode cX8_tables 175 = .ok (.aload_n 0, 1) := by decide +kernel
theorem dX8_tables_176 : decode cX8_tables 176 = .ok (.iload_n 3, 1) := by decide +kernel
theorem dX8_tables_177 : decode cX8_tables 177 = .ok (.invokevirtual 176, 3) := by decide +kernel
theorem dX8_tables_180 : decode cX8_tables 180 = .ok (.iinc 2 1, 3) := by decide +kernel
theorem dX8_tables_183 : decode cX8_tables 183 = .ok (.goto (-47), 3) := by decide +kernel
theorem dX8_tables_186 : decode cX8_tables 186 = .ok (.aload_n 0, 1) := by decide +kernel
theorem dX8_tables_187 : decode cX8_tables 187 = .ok (.getfield 167, 3) := by decide +kernel
theorem dX8_tables_190 : decode cX8_tables 190 = .ok (.iconst 1, 1) := by decide +kernel
theorem dX8_tables_191 : decode cX8_tables 191 = .ok (.isub, 1) := by decide +kernel
theorem dX8_tables_192 : decode cX8_tables 192 = .ok (.istore_n 2, 1) := by decide +kernel
theorem dX8_tables_193 : decode cX8_tables 193 = .ok (.iload_n 2, 1) := by decide +kernel
theorem dX8_tables_194 : decode cX8_tables 194 = .ok (.ifCond .lt 65, 3) := by decide +kernel
theorem dX8_tables_197 : decode cX8_tables 197 = .ok (.aload_n 0, 1) := by decide +kernel
theorem dX8_tables_198 : decode cX8_tables 198 = .ok (.getfield 37, 3) := by decide +kernel
theorem dX8_tables_201 : decode cX8_tables 201 = .ok (.aload_n 0, 1) := by decide +kernel
theorem dX8_tables_202 : decode cX8_tables 202 = .ok (.getfield 34, 3) := by decide +kernel
theorem dX8_tables_205 : decode cX8_tables 205 = .ok (.iload_n 2, 1) := by decide +kernel
theorem dX8_tables_206 : decode cX8_tables 206 = .ok (.iaload, 1) := by decide +kernel
theorem dX8_tables_207 : decode cX8_tables 207 = .ok (.aload_n 0, 1) := by decide +kernel
theorem dX8_tables_208 : decode cX8_tables 208 = .ok (.getfield 37, 3) := by decide +kernel
theorem dX8_tables_211 : decode cX8_tables 211 = .ok (.aload_n 0, 1) := by decide +kernel
theorem dX8_tables_212 : decode cX8_tables 212 = .ok (.getfield 28, 3) := by decide +kernel
theorem dX8_tables_215 : decode cX8_tables 215 = .ok (.aload_n 0, 1) := by decide +kernel
theorem dX8_tables_216 : decode cX8_tables 216 = .ok (.getfield 34, 3) := by decide +kernel
theorem dX8_tables_219 : decode cX8_tables 219 = .ok (.iload_n 2, 1) := by decide +kernel
theorem dX8_tables_220 : decode cX8_tables 220 = .ok (.iaload, 1) := by decide +kernel
theorem dX8_tables_221 : decode cX8_tables 221 = .ok (.iaload, 1) := by decide +kernel
theorem dX8_tables_222 : decode cX8_tables 222 = .ok (.iaload, 1) := by decide +kernel
theorem dX8_tables_223 : decode cX8_tables 223 = .ok (.iconst 1, 1) := by decide +kernel
theorem dX8_tables_224 : decode cX8_tables 224 = .ok (.iadd, 1) := by decide +kernel
theorem dX8_tables_225 : decode cX8_tables 225 = .ok (.iastore, 1) := by decide +kernel
theorem dX8_tables_226 : decode cX8_tables 226 = .ok (.aload_n 0, 1) := by decide +kernel
theorem dX8_tables_227 : decode cX8_tables 227 = .ok (.getfield 40, 3) := by decide +kernel
theorem dX8_tables_230 : decode cX8_tables 230 = .ok (.aload_n 0, 1) := by decide +kernel
theorem dX8_tables_231 : decode cX8_tables 231 = .ok (.getfield 34, 3) := by decide +kernel
theorem dX8_tables_234 : decode cX8_tables 234 = .ok (.iload_n 2, 1) := by decide +kernel
theorem dX8_tables_235 : decode cX8_tables 235 = .ok (.iaload, 1) := by decide +kernel
theorem dX8_tables_236 : decode cX8_tables 236 = .ok (.aload_n 0, 1) := by decide +kernel
theorem dX8_tables_237 : decode cX8_tables 237 = .ok (.getfield 40, 3) := by decide +kernel
theorem dX8_tables_240 : decode cX8_tables 240 = .ok (.aload_n 0, 1) := by decide +kernel
theorem dX8_tables_241 : decode cX8_tables 241 = .ok (.getfield 28, 3) := by decide +kernel
theorem dX8_tables_244 : decode cX8_tables 244 = .ok (.aload_n 0, 1) := by decide +kernel
theorem dX8_tables_245 : decode cX8_tables 245 = .ok (.getfield 34, 3) := by decide +kernel
theorem dX8_tables_248 : decode cX8_tables 248 = .ok (.iload_n 2, 1) := by decide +kernel
theorem dX8_tables_249 : decode cX8_tables 249 = .ok (.iaload, 1) := by decide +kernel
theorem dX8_tables_250 : decode cX8_tables 250 = .ok (.iaload, 1) := by decide +kernel
theorem dX8_tables_251 : decode cX8_tables 251 = .ok (.iaload, 1) := by decide +kernel
theorem dX8_tables_252 : decode cX8_tables 252 = .ok (.iastore, 1) := by decide +kernel
theorem dX8_tables_253 : decode cX8_tables 253 = .ok (.iinc 2 (-1), 3) := by decide +kernel
theorem dX8_tables_256 : decode cX8_tables 256 = .ok (.goto (-63), 3) := by decide +kernel
theorem dX8_tables_259 : decode cX8_tables 259 = .ok (.return_, 1) := by decide +kernel
theorem dX8_roundFrom_0 : decode cX8_roundFrom 0 = .ok (.iconst 1, 1) := by decide +kernel
theorem dX8_roundFrom_1 : decode cX8_roundFrom 1 = .ok (.istore_n 2, 1) := by decide +kernel
theorem dX8_roundFrom_2 : decode cX8_roundFrom 2 = .ok (.aload_n 0, 1) := by decide +kernel
theorem dX8_roundFrom_3 : decode cX8_roundFrom 3 = .ok (.getfield 28, 3) := by decide +kernel
theorem dX8_roundFrom_6 : decode cX8_roundFrom 6 = .ok (.iload_n 1, 1) := by decide +kernel
theorem dX8_roundFrom_7 : decode cX8_roundFrom 7 = .ok (.iaload, 1) := by decide +kernel
theorem dX8_roundFrom_8 : decode cX8_roundFrom 8 = .ok (.istore_n 3, 1) := by decide +kernel
theorem dX8_roundFrom_9 : decode cX8_roundFrom 9 = .ok (.iload_n 3, 1) := by decide +kernel
theorem dX8_roundFrom_10 : decode cX8_roundFrom 10 = .ok (.iload_n 1, 1) := by decide +kernel
theorem dX8_roundFrom_11 : decode cX8_roundFrom 11 = .ok (.if_icmp .eq 16, 3) := by decide +kernel
theorem dX8_roundFrom_14 : decode cX8_roundFrom 14 = .ok (.iinc 2 1, 3) := by decide +kernel
theorem dX8_roundFrom_17 : decode cX8_roundFrom 17 = .ok (.aload_n 0, 1) := by decide +kernel
theorem dX8_roundFrom_18 : decode cX8_roundFrom 18 = .ok (.getfield 28, 3) := by decide +kernel
theorem dX8_roundFrom_21 : decode cX8_roundFrom 21 = .ok (.iload_n 3, 1) := by decide +kernel
theorem dX8_roundFrom_22 : decode cX8_roundFrom 22 = .ok (.iaload, 1) := by decide +kernel
theorem dX8_roundFrom_23 : decode cX8_roundFrom 23 = .ok (.istore_n 3, 1) := by decide +kernel
theorem dX8_roundFrom_24 : decode cX8_roundFrom 24 = .ok (.goto (-15), 3) := by decide +kernel
theorem dX8_roundFrom_27 : decode cX8_roundFrom 27 = .ok (.iload_n 2, 1) := by decide +kernel
theorem dX8_roundFrom_28 : decode cX8_roundFrom 28 = .ok (.ireturn, 1) := by decide +kernel
theorem dX8_behind_0 : decode cX8_behind 0 = .ok (.iload_n 1, 1) := by decide +kernel
theorem dX8_behind_1 : decode cX8_behind 1 = .ok (.istore 4, 2) := by decide +kernel
theorem dX8_behind_3 : decode cX8_behind 3 = .ok (.lconst 0, 1) := by decide +kernel
theorem dX8_behind_4 : decode cX8_behind 4 = .ok (.lstore 5, 2) := by decide +kernel
theorem dX8_behind_6 : decode cX8_behind 6 = .ok (.lload 5, 2) := by decide +kernel
theorem dX8_behind_8 : decode cX8_behind 8 = .ok (.lload_n 2, 1) := by decide +kernel
theorem dX8_behind_9 : decode cX8_behind 9 = .ok (.lcmp, 1) := by decide +kernel
theorem dX8_behind_10 : decode cX8_behind 10 = .ok (.ifCond .ge 21, 3) := by decide +kernel
theorem dX8_behind_13 : decode cX8_behind 13 = .ok (.aload_n 0, 1) := by decide +kernel
theorem dX8_behind_14 : decode cX8_behind 14 = .ok (.getfield 28, 3) := by decide +kernel
theorem dX8_behind_17 : decode cX8_behind 17 = .ok (.iload 4, 2) := by decide +kernel
theorem dX8_behind_19 : decode cX8_behind 19 = .ok (.iaload, 1) := by decide +kernel
theorem dX8_behind_20 : decode cX8_behind 20 = .ok (.istore 4, 2) := by decide +kernel
theorem dX8_behind_22 : decode cX8_behind 22 = .ok (.lload 5, 2) := by decide +kernel
theorem dX8_behind_24 : decode cX8_behind 24 = .ok (.lconst 1, 1) := by decide +kernel
theorem dX8_behind_25 : decode cX8_behind 25 = .ok (.ladd, 1) := by decide +kernel
theorem dX8_behind_26 : decode cX8_behind 26 = .ok (.lstore 5, 2) := by decide +kernel
theorem dX8_behind_28 : decode cX8_behind 28 = .ok (.goto (-22), 3) := by decide +kernel
theorem dX8_behind_31 : decode cX8_behind 31 = .ok (.iload 4, 2) := by decide +kernel
theorem dX8_behind_33 : decode cX8_behind 33 = .ok (.ireturn, 1) := by decide +kernel
theorem dX8_roundOf_0 : decode cX8_roundOf 0 = .ok (.aload_n 0, 1) := by decide +kernel
theorem dX8_roundOf_1 : decode cX8_roundOf 1 = .ok (.aload_n 0, 1) := by decide +kernel
theorem dX8_roundOf_2 : decode cX8_roundOf 2 = .ok (.iload_n 1, 1) := by decide +kernel
theorem dX8_roundOf_3 : decode cX8_roundOf 3 = .ok (.aload_n 0, 1) := by decide +kernel
theorem dX8_roundOf_4 : decode cX8_roundOf 4 = .ok (.getfield 37, 3) := by decide +kernel
theorem dX8_roundOf_7 : decode cX8_roundOf 7 = .ok (.iload_n 1, 1) := by decide +kernel
theorem dX8_roundOf_8 : decode cX8_roundOf 8 = .ok (.iaload, 1) := by decide +kernel
theorem dX8_roundOf_9 : decode cX8_roundOf 9 = .ok (.i2l, 1) := by decide +kernel
theorem dX8_roundOf_10 : decode cX8_roundOf 10 = .ok (.invokevirtual 182, 3) := by decide +kernel
theorem dX8_roundOf_13 : decode cX8_roundOf 13 = .ok (.invokevirtual 186, 3) := by decide +kernel
theorem dX8_roundOf_16 : decode cX8_roundOf 16 = .ok (.ireturn, 1) := by decide +kernel
theorem dX8_after_0 : decode cX8_after 0 = .ok (.aload_n 0, 1) := by decide +kernel
theorem dX8_after_1 : decode cX8_after 1 = .ok (.iload_n 1, 1) := by decide +kernel
theorem dX8_after_2 : decode cX8_after 2 = .ok (.invokevirtual 149, 3) := by decide +kernel
theorem dX8_after_5 : decode cX8_after 5 = .ok (.ifCond .eq 5, 3) := by decide +kernel
theorem dX8_after_8 : decode cX8_after 8 = .ok (.iconst (-1), 1) := by decide +kernel
theorem dX8_after_9 : decode cX8_after 9 = .ok (.ireturn, 1) := by decide +kernel
theorem dX8_after_10 : decode cX8_after 10 = .ok (.lload_n 2, 1) := by decide +kernel
theorem dX8_after_11 : decode cX8_after 11 = .ok (.lconst 0, 1) := by decide +kernel
theorem dX8_after_12 : decode cX8_after 12 = .ok (.ldc2_w 189, 3) := by decide +kernel
theorem dX8_after_15 : decode cX8_after 15 = .ok (.invokestatic 80, 3) := by decide +kernel
theorem dX8_after_18 : decode cX8_after 18 = .ok (.ifCond .ne 6, 3) := by decide +kernel
theorem dX8_after_21 : decode cX8_after 21 = .ok (.bipush (-2), 2) := by decide +kernel
theorem dX8_after_23 : decode cX8_after 23 = .ok (.ireturn, 1) := by decide +kernel
theorem dX8_after_24 : decode cX8_after 24 = .ok (.aload_n 0, 1) := by decide +kernel
theorem dX8_after_25 : decode cX8_after 25 = .ok (.invokevirtual 191, 3) := by decide +kernel
theorem dX8_after_28 : decode cX8_after 28 = .ok (.istore 4, 2) := by decide +kernel
theorem dX8_after_30 : decode cX8_after 30 = .ok (.aload_n 0, 1) := by decide +kernel
theorem dX8_after_31 : decode cX8_after 31 = .ok (.invokevirtual 194, 3) := by decide +kernel
theorem dX8_after_34 : decode cX8_after 34 = .ok (.aload_n 0, 1) := by decide +kernel
theorem dX8_after_35 : decode cX8_after 35 = .ok (.getfield 37, 3) := by decide +kernel
theorem dX8_after_38 : decode cX8_after 38 = .ok (.iload 4, 2) := by decide +kernel
theorem dX8_after_40 : decode cX8_after 40 = .ok (.iaload, 1) := by decide +kernel
theorem dX8_after_41 : decode cX8_after 41 = .ok (.i2l, 1) := by decide +kernel
theorem dX8_after_42 : decode cX8_after 42 = .ok (.lstore 5, 2) := by decide +kernel
theorem dX8_after_44 : decode cX8_after 44 = .ok (.aload_n 0, 1) := by decide +kernel
theorem dX8_after_45 : decode cX8_after 45 = .ok (.aload_n 0, 1) := by decide +kernel
theorem dX8_after_46 : decode cX8_after 46 = .ok (.iload 4, 2) := by decide +kernel
theorem dX8_after_48 : decode cX8_after 48 = .ok (.lload_n 2, 1) := by decide +kernel
theorem dX8_after_49 : decode cX8_after 49 = .ok (.lload 5, 2) := by decide +kernel
theorem dX8_after_51 : decode cX8_after 51 = .ok (.lcmp, 1) := by decide +kernel
theorem dX8_after_52 : decode cX8_after 52 = .ok (.ifCond .gt 7, 3) := by decide +kernel
theorem dX8_after_55 : decode cX8_after 55 = .ok (.lload_n 2, 1) := by decide +kernel
theorem dX8_after_56 : decode cX8_after 56 = .ok (.goto 18, 3) := by decide +kernel
theorem dX8_after_59 : decode cX8_after 59 = .ok (.lload 5, 2) := by decide +kernel
theorem dX8_after_61 : decode cX8_after 61 = .ok (.lload_n 2, 1) := by decide +kernel
theorem dX8_after_62 : decode cX8_after 62 = .ok (.lload 5, 2) := by decide +kernel
theorem dX8_after_64 : decode cX8_after 64 = .ok (.lsub, 1) := by decide +kernel
theorem dX8_after_65 : decode cX8_after 65 = .ok (.aload_n 0, 1) := by decide +kernel
theorem dX8_after_66 : decode cX8_after 66 = .ok (.iload 4, 2) := by decide +kernel
theorem dX8_after_68 : decode cX8_after 68 = .ok (.invokevirtual 197, 3) := by decide +kernel
theorem dX8_after_71 : decode cX8_after 71 = .ok (.i2l, 1) := by decide +kernel
theorem dX8_after_72 : decode cX8_after 72 = .ok (.lrem, 1) := by decide +kernel
theorem dX8_after_73 : decode cX8_after 73 = .ok (.ladd, 1) := by decide +kernel
theorem dX8_after_74 : decode cX8_after 74 = .ok (.invokevirtual 182, 3) := by decide +kernel
theorem dX8_after_77 : decode cX8_after 77 = .ok (.invokevirtual 173, 3) := by decide +kernel
theorem dX8_after_80 : decode cX8_after 80 = .ok (.aload_n 0, 1) := by decide +kernel
theorem dX8_after_81 : decode cX8_after 81 = .ok (.getfield 22, 3) := by decide +kernel
theorem dX8_after_84 : decode cX8_after 84 = .ok (.iload_n 1, 1) := by decide +kernel
theorem dX8_after_85 : decode cX8_after 85 = .ok (.iaload, 1) := by decide +kernel
theorem dX8_after_86 : decode cX8_after 86 = .ok (.ireturn, 1) := by decide +kernel
theorem dX8_sumNow_0 : decode cX8_sumNow 0 = .ok (.iconst 0, 1) := by decide +kernel
theorem dX8_sumNow_1 : decode cX8_sumNow 1 = .ok (.istore_n 1, 1) := by decide +kernel
theorem dX8_sumNow_2 : decode cX8_sumNow 2 = .ok (.iconst 0, 1) := by decide +kernel
theorem dX8_sumNow_3 : decode cX8_sumNow 3 = .ok (.istore_n 2, 1) := by decide +kernel
theorem dX8_sumNow_4 : decode cX8_sumNow 4 = .ok (.iload_n 2, 1) := by decide +kernel
theorem dX8_sumNow_5 : decode cX8_sumNow 5 = .ok (.aload_n 0, 1) := by decide +kernel
theorem dX8_sumNow_6 : decode cX8_sumNow 6 = .ok (.getfield 77, 3) := by decide +kernel
theorem dX8_sumNow_9 : decode cX8_sumNow 9 = .ok (.if_icmp .ge 18, 3) := by decide +kernel
theorem dX8_sumNow_12 : decode cX8_sumNow 12 = .ok (.iload_n 1, 1) := by decide +kernel
theorem dX8_sumNow_13 : decode cX8_sumNow 13 = .ok (.aload_n 0, 1) := by decide +kernel
theorem dX8_sumNow_14 : decode cX8_sumNow 14 = .ok (.getfield 13, 3) := by decide +kernel
theorem dX8_sumNow_17 : decode cX8_sumNow 17 = .ok (.iload_n 2, 1) := by decide +kernel
theorem dX8_sumNow_18 : decode cX8_sumNow 18 = .ok (.iaload, 1) := by decide +kernel
theorem dX8_sumNow_19 : decode cX8_sumNow 19 = .ok (.iadd, 1) := by decide +kernel
theorem dX8_sumNow_20 : decode cX8_sumNow 20 = .ok (.istore_n 1, 1) := by decide +kernel
theorem dX8_sumNow_21 : decode cX8_sumNow 21 = .ok (.iinc 2 1, 3) := by decide +kernel
theorem dX8_sumNow_24 : decode cX8_sumNow 24 = .ok (.goto (-20), 3) := by decide +kernel
theorem dX8_sumNow_27 : decode cX8_sumNow 27 = .ok (.iload_n 1, 1) := by decide +kernel
theorem dX8_sumNow_28 : decode cX8_sumNow 28 = .ok (.ireturn, 1) := by decide +kernel
theorem dX8_doesPair_0 : decode cX8_doesPair 0 = .ok (.iload_n 2, 1) := by decide +kernel
theorem dX8_doesPair_1 : decode cX8_doesPair 1 = .ok (.bipush 9, 2) := by decide +kernel
theorem dX8_doesPair_3 : decode cX8_doesPair 3 = .ok (.if_icmp .ne 20, 3) := by decide +kernel
theorem dX8_doesPair_6 : decode cX8_doesPair 6 = .ok (.aload_n 0, 1) := by decide +kernel
theorem dX8_doesPair_7 : decode cX8_doesPair 7 = .ok (.iload_n 1, 1) := by decide +kernel
theorem dX8_doesPair_8 : decode cX8_doesPair 8 = .ok (.invokevirtual 160, 3) := by decide +kernel
theorem dX8_doesPair_11 : decode cX8_doesPair 11 = .ok (.aload_n 0, 1) := by decide +kernel
theorem dX8_doesPair_12 : decode cX8_doesPair 12 = .ok (.dup, 1) := by decide +kernel
theorem dX8_doesPair_13 : decode cX8_doesPair 13 = .ok (.getfield 200, 3) := by decide +kernel
theorem dX8_doesPair_16 : decode cX8_doesPair 16 = .ok (.iload_n 1, 1) := by decide +kernel
theorem dX8_doesPair_17 : decode cX8_doesPair 17 = .ok (.iadd, 1) := by decide +kernel
theorem dX8_doesPair_18 : decode cX8_doesPair 18 = .ok (.putfield 200, 3) := by decide +kernel
theorem dX8_doesPair_21 : decode cX8_doesPair 21 = .ok (.iconst 1, 1) := by decide +kernel
theorem dX8_doesPair_22 : decode cX8_doesPair 22 = .ok (.ireturn, 1) := by decide +kernel
theorem dX8_doesPair_23 : decode cX8_doesPair 23 = .ok (.aload_n 0, 1) := by decide +kernel
theorem dX8_doesPair_24 : decode cX8_doesPair 24 = .ok (.iload_n 2, 1) := by decide +kernel
theorem dX8_doesPair_25 : decode cX8_doesPair 25 = .ok (.iload_n 1, 1) := by decide +kernel
theorem dX8_doesPair_26 : decode cX8_doesPair 26 = .ok (.invokevirtual 203, 3) := by decide +kernel
theorem dX8_doesPair_29 : decode cX8_doesPair 29 = .ok (.ifCond .lt 7, 3) := by decide +kernel
theorem dX8_doesPair_32 : decode cX8_doesPair 32 = .ok (.iconst 1, 1) := by decide +kernel
theorem dX8_doesPair_33 : decode cX8_doesPair 33 = .ok (.goto 4, 3) := by decide +kernel
theorem dX8_doesPair_36 : decode cX8_doesPair 36 = .ok (.iconst 0, 1) := by decide +kernel
theorem dX8_doesPair_37 : decode cX8_doesPair 37 = .ok (.ireturn, 1) := by decide +kernel
theorem dX8_tailNow_0 : decode cX8_tailNow 0 = .ok (.aload_n 0, 1) := by decide +kernel
theorem dX8_tailNow_1 : decode cX8_tailNow 1 = .ok (.invokevirtual 191, 3) := by decide +kernel
theorem dX8_tailNow_4 : decode cX8_tailNow 4 = .ok (.istore_n 1, 1) := by decide +kernel
theorem dX8_tailNow_5 : decode cX8_tailNow 5 = .ok (.aload_n 0, 1) := by decide +kernel
theorem dX8_tailNow_6 : decode cX8_tailNow 6 = .ok (.invokevirtual 194, 3) := by decide +kernel
theorem dX8_tailNow_9 : decode cX8_tailNow 9 = .ok (.aload_n 0, 1) := by decide +kernel
theorem dX8_tailNow_10 : decode cX8_tailNow 10 = .ok (.getfield 37, 3) := by decide +kernel
theorem dX8_tailNow_13 : decode cX8_tailNow 13 = .ok (.iload_n 1, 1) := by decide +kernel
theorem dX8_tailNow_14 : decode cX8_tailNow 14 = .ok (.iaload, 1) := by decide +kernel
theorem dX8_tailNow_15 : decode cX8_tailNow 15 = .ok (.ireturn, 1) := by decide +kernel
theorem dX8_dayOf_0 : decode cX8_dayOf 0 = .ok (.bipush (-9), 2) := by decide +kernel
theorem dX8_dayOf_2 : decode cX8_dayOf 2 = .ok (.istore 4, 2) := by decide +kernel
theorem dX8_dayOf_4 : decode cX8_dayOf 4 = .ok (.aload_n 0, 1) := by decide +kernel
theorem dX8_dayOf_5 : decode cX8_dayOf 5 = .ok (.iconst 0, 1) := by decide +kernel
theorem dX8_dayOf_6 : decode cX8_dayOf 6 = .ok (.putfield 206, 3) := by decide +kernel
theorem dX8_dayOf_9 : decode cX8_dayOf 9 = .ok (.aload_n 0, 1) := by decide +kernel
theorem dX8_dayOf_10 : decode cX8_dayOf 10 = .ok (.iconst 0, 1) := by decide +kernel
theorem dX8_dayOf_11 : decode cX8_dayOf 11 = .ok (.putfield 200, 3) := by decide +kernel
theorem dX8_dayOf_14 : decode cX8_dayOf 14 = .ok (.iconst 0, 1) := by decide +kernel
theorem dX8_dayOf_15 : decode cX8_dayOf 15 = .ok (.istore 5, 2) := by decide +kernel
theorem dX8_dayOf_17 : decode cX8_dayOf 17 = .ok (.iload 5, 2) := by decide +kernel
theorem dX8_dayOf_19 : decode cX8_dayOf 19 = .ok (.iload_n 2, 1) := by decide +kernel
theorem dX8_dayOf_20 : decode cX8_dayOf 20 = .ok (.if_icmp .ge 79, 3) := by decide +kernel
theorem dX8_dayOf_23 : decode cX8_dayOf 23 = .ok (.iload 4, 2) := by decide +kernel
theorem dX8_dayOf_25 : decode cX8_dayOf 25 = .ok (.ifCond .ge 74, 3) := by decide +kernel
theorem dX8_dayOf_28 : decode cX8_dayOf 28 = .ok (.aload_n 0, 1) := by decide +kernel
theorem dX8_dayOf_29 : decode cX8_dayOf 29 = .ok (.aload_n 0, 1) := by decide +kernel
theorem dX8_dayOf_30 : decode cX8_dayOf 30 = .ok (.getfield 61, 3) := by decide +kernel
theorem dX8_dayOf_33 : decode cX8_dayOf 33 = .ok (.iload_n 1, 1) := by decide +kernel
theorem dX8_dayOf_34 : decode cX8_dayOf 34 = .ok (.iconst 2, 1) := by decide +kernel
theorem dX8_dayOf_35 : decode cX8_dayOf 35 = .ok (.iload 5, 2) := by decide +kernel
theorem dX8_dayOf_37 : decode cX8_dayOf 37 = .ok (.imul, 1) := by decide +kernel
theorem dX8_dayOf_38 : decode cX8_dayOf 38 = .ok (.iadd, 1) := by decide +kernel
theorem dX8_dayOf_39 : decode cX8_dayOf 39 = .ok (.iaload, 1) := by decide +kernel
theorem dX8_dayOf_40 : decode cX8_dayOf 40 = .ok (.aload_n 0, 1) := by decide +kernel
theorem dX8_dayOf_41 : decode cX8_dayOf 41 = .ok (.getfield 61, 3) := by decide +kernel
theorem dX8_dayOf_44 : decode cX8_dayOf 44 = .ok (.iload_n 1, 1) := by decide +kernel
theorem dX8_dayOf_45 : decode cX8_dayOf 45 = .ok (.iconst 2, 1) := by decide +kernel
theorem dX8_dayOf_46 : decode cX8_dayOf 46 = .ok (.iload 5, 2) := by decide +kernel
theorem dX8_dayOf_48 : decode cX8_dayOf 48 = .ok (.imul, 1) := by decide +kernel
theorem dX8_dayOf_49 : decode cX8_dayOf 49 = .ok (.iadd, 1) := by decide +kernel
theorem dX8_dayOf_50 : decode cX8_dayOf 50 = .ok (.iconst 1, 1) := by decide +kernel
theorem dX8_dayOf_51 : decode cX8_dayOf 51 = .ok (.iadd, 1) := by decide +kernel
theorem dX8_dayOf_52 : decode cX8_dayOf 52 = .ok (.iaload, 1) := by decide +kernel
theorem dX8_dayOf_53 : decode cX8_dayOf 53 = .ok (.invokevirtual 209, 3) := by decide +kernel
theorem dX8_dayOf_56 : decode cX8_dayOf 56 = .ok (.ifCond .eq 8, 3) := by decide +kernel
theorem dX8_dayOf_59 : decode cX8_dayOf 59 = .ok (.bipush (-9), 2) := by decide +kernel
theorem dX8_dayOf_61 : decode cX8_dayOf 61 = .ok (.goto 5, 3) := by decide +kernel
theorem dX8_dayOf_64 : decode cX8_dayOf 64 = .ok (.iload 5, 2) := by decide +kernel
theorem dX8_dayOf_66 : decode cX8_dayOf 66 = .ok (.istore 4, 2) := by decide +kernel
theorem dX8_dayOf_68 : decode cX8_dayOf 68 = .ok (.aload_n 0, 1) := by decide +kernel
theorem dX8_dayOf_69 : decode cX8_dayOf 69 = .ok (.dup, 1) := by decide +kernel
theorem dX8_dayOf_70 : decode cX8_dayOf 70 = .ok (.getfield 206, 3) := by decide +kernel
theorem dX8_dayOf_73 : decode cX8_dayOf 73 = .ok (.aload_n 0, 1) := by decide +kernel
theorem dX8_dayOf_74 : decode cX8_dayOf 74 = .ok (.invokevirtual 164, 3) := by decide +kernel
theorem dX8_dayOf_77 : decode cX8_dayOf 77 = .ok (.aload_n 0, 1) := by decide +kernel
theorem dX8_dayOf_78 : decode cX8_dayOf 78 = .ok (.getfield 77, 3) := by decide +kernel
theorem dX8_dayOf_81 : decode cX8_dayOf 81 = .ok (.if_icmp .ne 7, 3) := by decide +kernel
theorem dX8_dayOf_84 : decode cX8_dayOf 84 = .ok (.iconst 1, 1) := by decide +kernel
theorem dX8_dayOf_85 : decode cX8_dayOf 85 = .ok (.goto 4, 3) := by decide +kernel
theorem dX8_dayOf_88 : decode cX8_dayOf 88 = .ok (.iconst 0, 1) := by decide +kernel
theorem dX8_dayOf_89 : decode cX8_dayOf 89 = .ok (.iadd, 1) := by decide +kernel
theorem dX8_dayOf_90 : decode cX8_dayOf 90 = .ok (.putfield 206, 3) := by decide +kernel
theorem dX8_dayOf_93 : decode cX8_dayOf 93 = .ok (.iinc 5 1, 3) := by decide +kernel
theorem dX8_dayOf_96 : decode cX8_dayOf 96 = .ok (.goto (-79), 3) := by decide +kernel
theorem dX8_dayOf_99 : decode cX8_dayOf 99 = .ok (.iload_n 3, 1) := by decide +kernel
theorem dX8_dayOf_100 : decode cX8_dayOf 100 = .ok (.iconst 1, 1) := by decide +kernel
theorem dX8_dayOf_101 : decode cX8_dayOf 101 = .ok (.if_icmp .ne 6, 3) := by decide +kernel
theorem dX8_dayOf_104 : decode cX8_dayOf 104 = .ok (.iload 4, 2) := by decide +kernel
theorem dX8_dayOf_106 : decode cX8_dayOf 106 = .ok (.ireturn, 1) := by decide +kernel
theorem dX8_dayOf_107 : decode cX8_dayOf 107 = .ok (.iload 4, 2) := by decide +kernel
theorem dX8_dayOf_109 : decode cX8_dayOf 109 = .ok (.ifCond .lt 9, 3) := by decide +kernel
theorem dX8_dayOf_112 : decode cX8_dayOf 112 = .ok (.bipush (-100), 2) := by decide +kernel
theorem dX8_dayOf_114 : decode cX8_dayOf 114 = .ok (.iload 4, 2) := by decide +kernel
theorem dX8_dayOf_116 : decode cX8_dayOf 116 = .ok (.isub, 1) := by decide +kernel
theorem dX8_dayOf_117 : decode cX8_dayOf 117 = .ok (.ireturn, 1) := by decide +kernel
theorem dX8_dayOf_118 : decode cX8_dayOf 118 = .ok (.iload_n 3, 1) := by decide +kernel
theorem dX8_dayOf_119 : decode cX8_dayOf 119 = .ok (.bipush 10, 2) := by decide +kernel
theorem dX8_dayOf_121 : decode cX8_dayOf 121 = .ok (.if_icmp .lt 29, 3) := by decide +kernel
theorem dX8_dayOf_124 : decode cX8_dayOf 124 = .ok (.aload_n 0, 1) := by decide +kernel
theorem dX8_dayOf_125 : decode cX8_dayOf 125 = .ok (.iload_n 3, 1) := by decide +kernel
theorem dX8_dayOf_126 : decode cX8_dayOf 126 = .ok (.bipush 10, 2) := by decide +kernel
theorem dX8_dayOf_128 : decode cX8_dayOf 128 = .ok (.isub, 1) := by decide +kernel
theorem dX8_dayOf_129 : decode cX8_dayOf 129 = .ok (.invokevirtual 149, 3) := by decide +kernel
theorem dX8_dayOf_132 : decode cX8_dayOf 132 = .ok (.ifCond .eq 8, 3) := by decide +kernel
theorem dX8_dayOf_135 : decode cX8_dayOf 135 = .ok (.bipush (-9), 2) := by decide +kernel
theorem dX8_dayOf_137 : decode cX8_dayOf 137 = .ok (.goto 12, 3) := by decide +kernel
theorem dX8_dayOf_140 : decode cX8_dayOf 140 = .ok (.aload_n 0, 1) := by decide +kernel
theorem dX8_dayOf_141 : decode cX8_dayOf 141 = .ok (.getfield 13, 3) := by decide +kernel
theorem dX8_dayOf_144 : decode cX8_dayOf 144 = .ok (.iload_n 3, 1) := by decide +kernel
theorem dX8_dayOf_145 : decode cX8_dayOf 145 = .ok (.bipush 10, 2) := by decide +kernel
theorem dX8_dayOf_147 : decode cX8_dayOf 147 = .ok (.isub, 1) := by decide +kernel
theorem dX8_dayOf_148 : decode cX8_dayOf 148 = .ok (.iaload, 1) := by decide +kernel
theorem dX8_dayOf_149 : decode cX8_dayOf 149 = .ok (.ireturn, 1) := by decide +kernel
theorem dX8_dayOf_150 : decode cX8_dayOf 150 = .ok (.iload_n 3, 1) := by decide +kernel
theorem dX8_dayOf_151 : decode cX8_dayOf 151 = .ok (.ifCond .ne 10, 3) := by decide +kernel
theorem dX8_dayOf_154 : decode cX8_dayOf 154 = .ok (.aload_n 0, 1) := by decide +kernel
theorem dX8_dayOf_155 : decode cX8_dayOf 155 = .ok (.invokevirtual 212, 3) := by decide +kernel
theorem dX8_dayOf_158 : decode cX8_dayOf 158 = .ok (.goto 31, 3) := by decide +kernel
theorem dX8_dayOf_161 : decode cX8_dayOf 161 = .ok (.iload_n 3, 1) := by decide +kernel
theorem dX8_dayOf_162 : decode cX8_dayOf 162 = .ok (.iconst 2, 1) := by decide +kernel
theorem dX8_dayOf_163 : decode cX8_dayOf 163 = .ok (.if_icmp .ne 10, 3) := by decide +kernel
theorem dX8_dayOf_166 : decode cX8_dayOf 166 = .ok (.aload_n 0, 1) := by decide +kernel
theorem dX8_dayOf_167 : decode cX8_dayOf 167 = .ok (.getfield 200, 3) := by decide +kernel
theorem dX8_dayOf_170 : decode cX8_dayOf 170 = .ok (.goto 19, 3) := by decide +kernel
theorem dX8_dayOf_173 : decode cX8_dayOf 173 = .ok (.iload_n 3, 1) := by decide +kernel
theorem dX8_dayOf_174 : decode cX8_dayOf 174 = .ok (.iconst 3, 1) := by decide +kernel
theorem dX8_dayOf_175 : decode cX8_dayOf 175 = .ok (.if_icmp .ne 10, 3) := by decide +kernel
theorem dX8_dayOf_178 : decode cX8_dayOf 178 = .ok (.aload_n 0, 1) := by decide +kernel
theorem dX8_dayOf_179 : decode cX8_dayOf 179 = .ok (.getfield 206, 3) := by decide +kernel
theorem dX8_dayOf_182 : decode cX8_dayOf 182 = .ok (.goto 7, 3) := by decide +kernel
theorem dX8_dayOf_185 : decode cX8_dayOf 185 = .ok (.aload_n 0, 1) := by decide +kernel
theorem dX8_dayOf_186 : decode cX8_dayOf 186 = .ok (.invokevirtual 215, 3) := by decide +kernel
theorem dX8_dayOf_189 : decode cX8_dayOf 189 = .ok (.ireturn, 1) := by decide +kernel
theorem dX8_day_0 : decode cX8_day 0 = .ok (.iload_n 1, 1) := by decide +kernel
theorem dX8_day_1 : decode cX8_day 1 = .ok (.invokestatic 113, 3) := by decide +kernel
theorem dX8_day_4 : decode cX8_day 4 = .ok (.ifCond .eq 9, 3) := by decide +kernel
theorem dX8_day_7 : decode cX8_day 7 = .ok (.aload_n 0, 1) := by decide +kernel
theorem dX8_day_8 : decode cX8_day 8 = .ok (.iconst (-1), 1) := by decide +kernel
theorem dX8_day_9 : decode cX8_day 9 = .ok (.invokevirtual 117, 3) := by decide +kernel
theorem dX8_day_12 : decode cX8_day 12 = .ok (.ireturn, 1) := by decide +kernel
theorem dX8_day_13 : decode cX8_day 13 = .ok (.iload_n 2, 1) := by decide +kernel
theorem dX8_day_14 : decode cX8_day 14 = .ok (.i2l, 1) := by decide +kernel
theorem dX8_day_15 : decode cX8_day 15 = .ok (.lconst 0, 1) := by decide +kernel
theorem dX8_day_16 : decode cX8_day 16 = .ok (.ldc2_w 97, 3) := by decide +kernel
theorem dX8_day_19 : decode cX8_day 19 = .ok (.invokestatic 80, 3) := by decide +kernel
theorem dX8_day_22 : decode cX8_day 22 = .ok (.ifCond .eq 44, 3) := by decide +kernel
theorem dX8_day_25 : decode cX8_day 25 = .ok (.iload 4, 2) := by decide +kernel
theorem dX8_day_27 : decode cX8_day 27 = .ok (.i2l, 1) := by decide +kernel
theorem dX8_day_28 : decode cX8_day 28 = .ok (.lconst 0, 1) := by decide +kernel
theorem dX8_day_29 : decode cX8_day 29 = .ok (.ldc2_w 218, 3) := by decide +kernel
theorem dX8_day_32 : decode cX8_day 32 = .ok (.invokestatic 80, 3) := by decide +kernel
theorem dX8_day_35 : decode cX8_day 35 = .ok (.ifCond .eq 31, 3) := by decide +kernel
theorem dX8_day_38 : decode cX8_day 38 = .ok (.iload 5, 2) := by decide +kernel
theorem dX8_day_40 : decode cX8_day 40 = .ok (.i2l, 1) := by decide +kernel
theorem dX8_day_41 : decode cX8_day 41 = .ok (.lconst 0, 1) := by decide +kernel
theorem dX8_day_42 : decode cX8_day 42 = .ok (.ldc2_w 220, 3) := by decide +kernel
theorem dX8_day_45 : decode cX8_day 45 = .ok (.invokestatic 80, 3) := by decide +kernel
theorem dX8_day_48 : decode cX8_day 48 = .ok (.ifCond .ne 25, 3) := by decide +kernel
theorem dX8_day_51 : decode cX8_day 51 = .ok (.iload 5, 2) := by decide +kernel
theorem dX8_day_53 : decode cX8_day 53 = .ok (.i2l, 1) := by decide +kernel
theorem dX8_day_54 : decode cX8_day 54 = .ok (.ldc2_w 222, 3) := by decide +kernel
theorem dX8_day_57 : decode cX8_day 57 = .ok (.ldc2_w 224, 3) := by decide +kernel
theorem dX8_day_60 : decode cX8_day 60 = .ok (.invokestatic 80, 3) := by decide +kernel
theorem dX8_day_63 : decode cX8_day 63 = .ok (.ifCond .ne 10, 3) := by decide +kernel
theorem dX8_day_66 : decode cX8_day 66 = .ok (.aload_n 0, 1) := by decide +kernel
theorem dX8_day_67 : decode cX8_day 67 = .ok (.bipush (-2), 2) := by decide +kernel
theorem dX8_day_69 : decode cX8_day 69 = .ok (.invokevirtual 117, 3) := by decide +kernel
theorem dX8_day_72 : decode cX8_day 72 = .ok (.ireturn, 1) := by decide +kernel
theorem dX8_day_73 : decode cX8_day 73 = .ok (.aload_n 0, 1) := by decide +kernel
theorem dX8_day_74 : decode cX8_day 74 = .ok (.getfield 77, 3) := by decide +kernel
theorem dX8_day_77 : decode cX8_day 77 = .ok (.ifCond .ne 10, 3) := by decide +kernel
theorem dX8_day_80 : decode cX8_day 80 = .ok (.aload_n 0, 1) := by decide +kernel
theorem dX8_day_81 : decode cX8_day 81 = .ok (.bipush (-3), 2) := by decide +kernel
theorem dX8_day_83 : decode cX8_day 83 = .ok (.invokevirtual 117, 3) := by decide +kernel
theorem dX8_day_86 : decode cX8_day 86 = .ok (.ireturn, 1) := by decide +kernel
theorem dX8_day_87 : decode cX8_day 87 = .ok (.aload_n 0, 1) := by decide +kernel
theorem dX8_day_88 : decode cX8_day 88 = .ok (.iload_n 1, 1) := by decide +kernel
theorem dX8_day_89 : decode cX8_day 89 = .ok (.iload_n 2, 1) := by decide +kernel
theorem dX8_day_90 : decode cX8_day 90 = .ok (.iload_n 3, 1) := by decide +kernel
theorem dX8_day_91 : decode cX8_day 91 = .ok (.ldc2_w 97, 3) := by decide +kernel
theorem dX8_day_94 : decode cX8_day 94 = .ok (.iload 4, 2) := by decide +kernel
theorem dX8_day_96 : decode cX8_day 96 = .ok (.i2l, 1) := by decide +kernel
theorem dX8_day_97 : decode cX8_day 97 = .ok (.lmul, 1) := by decide +kernel
theorem dX8_day_98 : decode cX8_day 98 = .ok (.invokevirtual 120, 3) := by decide +kernel
theorem dX8_day_101 : decode cX8_day 101 = .ok (.istore 6, 2) := by decide +kernel
theorem dX8_day_103 : decode cX8_day 103 = .ok (.iload 6, 2) := by decide +kernel
theorem dX8_day_105 : decode cX8_day 105 = .ok (.ifCond .ge 6, 3) := by decide +kernel
theorem dX8_day_108 : decode cX8_day 108 = .ok (.iload 6, 2) := by decide +kernel
theorem dX8_day_110 : decode cX8_day 110 = .ok (.ireturn, 1) := by decide +kernel
theorem dX8_day_111 : decode cX8_day 111 = .ok (.bipush 60, 2) := by decide +kernel
theorem dX8_day_113 : decode cX8_day 113 = .ok (.iload_n 1, 1) := by decide +kernel
theorem dX8_day_114 : decode cX8_day 114 = .ok (.imul, 1) := by decide +kernel
theorem dX8_day_115 : decode cX8_day 115 = .ok (.iload_n 3, 1) := by decide +kernel
theorem dX8_day_116 : decode cX8_day 116 = .ok (.iadd, 1) := by decide +kernel
theorem dX8_day_117 : decode cX8_day 117 = .ok (.istore 7, 2) := by decide +kernel
theorem dX8_day_119 : decode cX8_day 119 = .ok (.iconst 0, 1) := by decide +kernel
theorem dX8_day_120 : decode cX8_day 120 = .ok (.istore 8, 2) := by decide +kernel
theorem dX8_day_122 : decode cX8_day 122 = .ok (.iload 8, 2) := by decide +kernel
theorem dX8_day_124 : decode cX8_day 124 = .ok (.iload 4, 2) := by decide +kernel
theorem dX8_day_126 : decode cX8_day 126 = .ok (.if_icmp .ge 95, 3) := by decide +kernel
theorem dX8_day_129 : decode cX8_day 129 = .ok (.aload_n 0, 1) := by decide +kernel
theorem dX8_day_130 : decode cX8_day 130 = .ok (.getfield 61, 3) := by decide +kernel
theorem dX8_day_133 : decode cX8_day 133 = .ok (.iload 7, 2) := by decide +kernel
theorem dX8_day_135 : decode cX8_day 135 = .ok (.iconst 2, 1) := by decide +kernel
theorem dX8_day_136 : decode cX8_day 136 = .ok (.iload 8, 2) := by decide +kernel
theorem dX8_day_138 : decode cX8_day 138 = .ok (.imul, 1) := by decide +kernel
theorem dX8_day_139 : decode cX8_day 139 = .ok (.iadd, 1) := by decide +kernel
theorem dX8_day_140 : decode cX8_day 140 = .ok (.iaload, 1) := by decide +kernel
theorem dX8_day_141 : decode cX8_day 141 = .ok (.istore 9, 2) := by decide +kernel
theorem dX8_day_143 : decode cX8_day 143 = .ok (.aload_n 0, 1) := by decide +kernel
theorem dX8_day_144 : decode cX8_day 144 = .ok (.getfield 61, 3) := by decide +kernel
theorem dX8_day_147 : decode cX8_day 147 = .ok (.iload 7, 2) := by decide +kernel
theorem dX8_day_149 : decode cX8_day 149 = .ok (.iconst 2, 1) := by decide +kernel
theorem dX8_day_150 : decode cX8_day 150 = .ok (.iload 8, 2) := by decide +kernel
theorem dX8_day_152 : decode cX8_day 152 = .ok (.imul, 1) := by decide +kernel
theorem dX8_day_153 : decode cX8_day 153 = .ok (.iadd, 1) := by decide +kernel
theorem dX8_day_154 : decode cX8_day 154 = .ok (.iconst 1, 1) := by decide +kernel
theorem dX8_day_155 : decode cX8_day 155 = .ok (.iadd, 1) := by decide +kernel
theorem dX8_day_156 : decode cX8_day 156 = .ok (.iaload, 1) := by decide +kernel
theorem dX8_day_157 : decode cX8_day 157 = .ok (.istore 10, 2) := by decide +kernel
theorem dX8_day_159 : decode cX8_day 159 = .ok (.iload 10, 2) := by decide +kernel
theorem dX8_day_161 : decode cX8_day 161 = .ok (.bipush 9, 2) := by decide +kernel
theorem dX8_day_163 : decode cX8_day 163 = .ok (.if_icmp .ne 19, 3) := by decide +kernel
theorem dX8_day_166 : decode cX8_day 166 = .ok (.iload 9, 2) := by decide +kernel
theorem dX8_day_168 : decode cX8_day 168 = .ok (.i2l, 1) := by decide +kernel
theorem dX8_day_169 : decode cX8_day 169 = .ok (.lconst 0, 1) := by decide +kernel
theorem dX8_day_170 : decode cX8_day 170 = .ok (.ldc2_w 158, 3) := by decide +kernel
theorem dX8_day_173 : decode cX8_day 173 = .ok (.invokestatic 80, 3) := by decide +kernel
theorem dX8_day_176 : decode cX8_day 176 = .ok (.ifCond .ne 39, 3) := by decide +kernel
theorem dX8_day_179 : decode cX8_day 179 = .ok (.goto 29, 3) := by decide +kernel
theorem dX8_day_182 : decode cX8_day 182 = .ok (.iload 10, 2) := by decide +kernel
theorem dX8_day_184 : decode cX8_day 184 = .ok (.i2l, 1) := by decide +kernel
theorem dX8_day_185 : decode cX8_day 185 = .ok (.lconst 0, 1) := by decide +kernel
theorem dX8_day_186 : decode cX8_day 186 = .ok (.ldc2_w 220, 3) := by decide +kernel
theorem dX8_day_189 : decode cX8_day 189 = .ok (.invokestatic 80, 3) := by decide +kernel
theorem dX8_day_192 : decode cX8_day 192 = .ok (.ifCond .eq 16, 3) := by decide +kernel
theorem dX8_day_195 : decode cX8_day 195 = .ok (.iload 9, 2) := by decide +kernel
theorem dX8_day_197 : decode cX8_day 197 = .ok (.i2l, 1) := by decide +kernel
theorem dX8_day_198 : decode cX8_day 198 = .ok (.lconst 0, 1) := by decide +kernel
theorem dX8_day_199 : decode cX8_day 199 = .ok (.ldc2_w 226, 3) := by decide +kernel
theorem dX8_day_202 : decode cX8_day 202 = .ok (.invokestatic 80, 3) := by decide +kernel
theorem dX8_day_205 : decode cX8_day 205 = .ok (.ifCond .ne 10, 3) := by decide +kernel
theorem dX8_day_208 : decode cX8_day 208 = .ok (.aload_n 0, 1) := by decide +kernel
theorem dX8_day_209 : decode cX8_day 209 = .ok (.bipush (-2), 2) := by decide +kernel
theorem dX8_day_211 : decode cX8_day 211 = .ok (.invokevirtual 117, 3) := by decide +kernel
theorem dX8_day_214 : decode cX8_day 214 = .ok (.ireturn, 1) := by decide +kernel
theorem dX8_day_215 : decode cX8_day 215 = .ok (.iinc 8 1, 3) := by decide +kernel
theorem dX8_day_218 : decode cX8_day 218 = .ok (.goto (-96), 3) := by decide +kernel
theorem dX8_day_221 : decode cX8_day 221 = .ok (.iconst 0, 1) := by decide +kernel
theorem dX8_day_222 : decode cX8_day 222 = .ok (.istore 8, 2) := by decide +kernel
theorem dX8_day_224 : decode cX8_day 224 = .ok (.iload 8, 2) := by decide +kernel
theorem dX8_day_226 : decode cX8_day 226 = .ok (.aload_n 0, 1) := by decide +kernel
theorem dX8_day_227 : decode cX8_day 227 = .ok (.getfield 77, 3) := by decide +kernel
theorem dX8_day_230 : decode cX8_day 230 = .ok (.if_icmp .ge 23, 3) := by decide +kernel
theorem dX8_day_233 : decode cX8_day 233 = .ok (.aload_n 0, 1) := by decide +kernel
theorem dX8_day_234 : decode cX8_day 234 = .ok (.getfield 43, 3) := by decide +kernel
theorem dX8_day_237 : decode cX8_day 237 = .ok (.iload 8, 2) := by decide +kernel
theorem dX8_day_239 : decode cX8_day 239 = .ok (.aload_n 0, 1) := by decide +kernel
theorem dX8_day_240 : decode cX8_day 240 = .ok (.getfield 13, 3) := by decide +kernel
theorem dX8_day_243 : decode cX8_day 243 = .ok (.iload 8, 2) := by decide +kernel
theorem dX8_day_245 : decode cX8_day 245 = .ok (.iaload, 1) := by decide +kernel
theorem dX8_day_246 : decode cX8_day 246 = .ok (.iastore, 1) := by decide +kernel
theorem dX8_day_247 : decode cX8_day 247 = .ok (.iinc 8 1, 3) := by decide +kernel
theorem dX8_day_250 : decode cX8_day 250 = .ok (.goto (-26), 3) := by decide +kernel
theorem dX8_day_253 : decode cX8_day 253 = .ok (.aload_n 0, 1) := by decide +kernel
theorem dX8_day_254 : decode cX8_day 254 = .ok (.iload 7, 2) := by decide +kernel
theorem dX8_day_256 : decode cX8_day 256 = .ok (.iload 4, 2) := by decide +kernel
theorem dX8_day_258 : decode cX8_day 258 = .ok (.iload 5, 2) := by decide +kernel
theorem dX8_day_260 : decode cX8_day 260 = .ok (.invokevirtual 228, 3) := by decide +kernel
theorem dX8_day_263 : decode cX8_day 263 = .ok (.istore 8, 2) := by decide +kernel
theorem dX8_day_265 : decode cX8_day 265 = .ok (.iconst 0, 1) := by decide +kernel
theorem dX8_day_266 : decode cX8_day 266 = .ok (.istore 9, 2) := by decide +kernel
theorem dX8_day_268 : decode cX8_day 268 = .ok (.iload 9, 2) := by decide +kernel
theorem dX8_day_270 : decode cX8_day 270 = .ok (.aload_n 0, 1) := by decide +kernel
theorem dX8_day_271 : decode cX8_day 271 = .ok (.getfield 77, 3) := by decide +kernel
theorem dX8_day_274 : decode cX8_day 274 = .ok (.if_icmp .ge 23, 3) := by decide +kernel
theorem dX8_day_277 : decode cX8_day 277 = .ok (.aload_n 0, 1) := by decide +kernel
theorem dX8_day_278 : decode cX8_day 278 = .ok (.getfield 13, 3) := by decide +kernel
theorem dX8_day_281 : decode cX8_day 281 = .ok (.iload 9, 2) := by decide +kernel
theorem dX8_day_283 : decode cX8_day 283 = .ok (.aload_n 0, 1) := by decide +kernel
theorem dX8_day_284 : decode cX8_day 284 = .ok (.getfield 43, 3) := by decide +kernel
theorem dX8_day_287 : decode cX8_day 287 = .ok (.iload 9, 2) := by decide +kernel
theorem dX8_day_289 : decode cX8_day 289 = .ok (.iaload, 1) := by decide +kernel
theorem dX8_day_290 : decode cX8_day 290 = .ok (.iastore, 1) := by decide +kernel
theorem dX8_day_291 : decode cX8_day 291 = .ok (.iinc 9 1, 3) := by decide +kernel
theorem dX8_day_294 : decode cX8_day 294 = .ok (.goto (-26), 3) := by decide +kernel
theorem dX8_day_297 : decode cX8_day 297 = .ok (.aload_n 0, 1) := by decide +kernel
theorem dX8_day_298 : decode cX8_day 298 = .ok (.iload 8, 2) := by decide +kernel
theorem dX8_day_300 : decode cX8_day 300 = .ok (.invokevirtual 117, 3) := by decide +kernel
theorem dX8_day_303 : decode cX8_day 303 = .ok (.ireturn, 1) := by decide +kernel
theorem dX8_now_0 : decode cX8_now 0 = .ok (.iload_n 1, 1) := by decide +kernel
theorem dX8_now_1 : decode cX8_now 1 = .ok (.i2l, 1) := by decide +kernel
theorem dX8_now_2 : decode cX8_now 2 = .ok (.lconst 0, 1) := by decide +kernel
theorem dX8_now_3 : decode cX8_now 3 = .ok (.ldc2_w 97, 3) := by decide +kernel
theorem dX8_now_6 : decode cX8_now 6 = .ok (.invokestatic 80, 3) := by decide +kernel
theorem dX8_now_9 : decode cX8_now 9 = .ok (.ifCond .ne 6, 3) := by decide +kernel
theorem dX8_now_12 : decode cX8_now 12 = .ok (.bipush (-2), 2) := by decide +kernel
theorem dX8_now_14 : decode cX8_now 14 = .ok (.ireturn, 1) := by decide +kernel
theorem dX8_now_15 : decode cX8_now 15 = .ok (.aload_n 0, 1) := by decide +kernel
theorem dX8_now_16 : decode cX8_now 16 = .ok (.getfield 77, 3) := by decide +kernel
theorem dX8_now_19 : decode cX8_now 19 = .ok (.ifCond .ne 6, 3) := by decide +kernel
theorem dX8_now_22 : decode cX8_now 22 = .ok (.bipush (-3), 2) := by decide +kernel
theorem dX8_now_24 : decode cX8_now 24 = .ok (.ireturn, 1) := by decide +kernel
theorem dX8_now_25 : decode cX8_now 25 = .ok (.aload_n 0, 1) := by decide +kernel
theorem dX8_now_26 : decode cX8_now 26 = .ok (.invokevirtual 191, 3) := by decide +kernel
theorem dX8_now_29 : decode cX8_now 29 = .ok (.istore_n 2, 1) := by decide +kernel
theorem dX8_now_30 : decode cX8_now 30 = .ok (.aload_n 0, 1) := by decide +kernel
theorem dX8_now_31 : decode cX8_now 31 = .ok (.invokevirtual 194, 3) := by decide +kernel
theorem dX8_now_34 : decode cX8_now 34 = .ok (.iload_n 1, 1) := by decide +kernel
theorem dX8_now_35 : decode cX8_now 35 = .ok (.ifCond .ne 12, 3) := by decide +kernel
theorem dX8_now_38 : decode cX8_now 38 = .ok (.aload_n 0, 1) := by decide +kernel
theorem dX8_now_39 : decode cX8_now 39 = .ok (.getfield 37, 3) := by decide +kernel
theorem dX8_now_42 : decode cX8_now 42 = .ok (.iload_n 2, 1) := by decide +kernel
theorem dX8_now_43 : decode cX8_now 43 = .ok (.iaload, 1) := by decide +kernel
theorem dX8_now_44 : decode cX8_now 44 = .ok (.goto 22, 3) := by decide +kernel
theorem dX8_now_47 : decode cX8_now 47 = .ok (.iload_n 1, 1) := by decide +kernel
theorem dX8_now_48 : decode cX8_now 48 = .ok (.iconst 1, 1) := by decide +kernel
theorem dX8_now_49 : decode cX8_now 49 = .ok (.if_icmp .ne 11, 3) := by decide +kernel
theorem dX8_now_52 : decode cX8_now 52 = .ok (.aload_n 0, 1) := by decide +kernel
theorem dX8_now_53 : decode cX8_now 53 = .ok (.iload_n 2, 1) := by decide +kernel
theorem dX8_now_54 : decode cX8_now 54 = .ok (.invokevirtual 197, 3) := by decide +kernel
theorem dX8_now_57 : decode cX8_now 57 = .ok (.goto 9, 3) := by decide +kernel
theorem dX8_now_60 : decode cX8_now 60 = .ok (.aload_n 0, 1) := by decide +kernel
theorem dX8_now_61 : decode cX8_now 61 = .ok (.getfield 40, 3) := by decide +kernel
theorem dX8_now_64 : decode cX8_now 64 = .ok (.iload_n 2, 1) := by decide +kernel
theorem dX8_now_65 : decode cX8_now 65 = .ok (.iaload, 1) := by decide +kernel
theorem dX8_now_66 : decode cX8_now 66 = .ok (.ireturn, 1) := by decide +kernel
theorem dX8_from_0 : decode cX8_from 0 = .ok (.iload_n 1, 1) := by decide +kernel
theorem dX8_from_1 : decode cX8_from 1 = .ok (.i2l, 1) := by decide +kernel
theorem dX8_from_2 : decode cX8_from 2 = .ok (.ldc2_w 232, 3) := by decide +kernel
theorem dX8_from_5 : decode cX8_from 5 = .ok (.ldc2_w 220, 3) := by decide +kernel
theorem dX8_from_8 : decode cX8_from 8 = .ok (.invokestatic 80, 3) := by decide +kernel
theorem dX8_from_11 : decode cX8_from 11 = .ok (.ifCond .ne 6, 3) := by decide +kernel
theorem dX8_from_14 : decode cX8_from 14 = .ok (.bipush (-2), 2) := by decide +kernel
theorem dX8_from_16 : decode cX8_from 16 = .ok (.ireturn, 1) := by decide +kernel
theorem dX8_from_17 : decode cX8_from 17 = .ok (.aload_n 0, 1) := by decide +kernel
theorem dX8_from_18 : decode cX8_from 18 = .ok (.getfield 77, 3) := by decide +kernel
theorem dX8_from_21 : decode cX8_from 21 = .ok (.ifCond .ne 6, 3) := by decide +kernel
theorem dX8_from_24 : decode cX8_from 24 = .ok (.bipush (-3), 2) := by decide +kernel
theorem dX8_from_26 : decode cX8_from 26 = .ok (.ireturn, 1) := by decide +kernel
theorem dX8_from_27 : decode cX8_from 27 = .ok (.aload_n 0, 1) := by decide +kernel
theorem dX8_from_28 : decode cX8_from 28 = .ok (.invokevirtual 191, 3) := by decide +kernel
theorem dX8_from_31 : decode cX8_from 31 = .ok (.istore_n 2, 1) := by decide +kernel
theorem dX8_from_32 : decode cX8_from 32 = .ok (.aload_n 0, 1) := by decide +kernel
theorem dX8_from_33 : decode cX8_from 33 = .ok (.invokevirtual 194, 3) := by decide +kernel
theorem dX8_from_36 : decode cX8_from 36 = .ok (.iconst 0, 1) := by decide +kernel
theorem dX8_from_37 : decode cX8_from 37 = .ok (.istore_n 3, 1) := by decide +kernel
theorem dX8_from_38 : decode cX8_from 38 = .ok (.bipush (-9), 2) := by decide +kernel
theorem dX8_from_40 : decode cX8_from 40 = .ok (.istore 4, 2) := by decide +kernel
theorem dX8_from_42 : decode cX8_from 42 = .ok (.aload_n 0, 1) := by decide +kernel
theorem dX8_from_43 : decode cX8_from 43 = .ok (.invokevirtual 170, 3) := by decide +kernel
theorem dX8_from_46 : decode cX8_from 46 = .ok (.iconst 1, 1) := by decide +kernel
theorem dX8_from_47 : decode cX8_from 47 = .ok (.isub, 1) := by decide +kernel
theorem dX8_from_48 : decode cX8_from 48 = .ok (.istore 5, 2) := by decide +kernel
theorem dX8_from_50 : decode cX8_from 50 = .ok (.iload 5, 2) := by decide +kernel
theorem dX8_from_52 : decode cX8_from 52 = .ok (.ifCond .lt 48, 3) := by decide +kernel
theorem dX8_from_55 : decode cX8_from 55 = .ok (.iload_n 3, 1) := by decide +kernel
theorem dX8_from_56 : decode cX8_from 56 = .ok (.aload_n 0, 1) := by decide +kernel
theorem dX8_from_57 : decode cX8_from 57 = .ok (.getfield 28, 3) := by decide +kernel
theorem dX8_from_60 : decode cX8_from 60 = .ok (.iload 5, 2) := by decide +kernel
theorem dX8_from_62 : decode cX8_from 62 = .ok (.iaload, 1) := by decide +kernel
theorem dX8_from_63 : decode cX8_from 63 = .ok (.iload_n 2, 1) := by decide +kernel
theorem dX8_from_64 : decode cX8_from 64 = .ok (.if_icmp .ne 7, 3) := by decide +kernel
theorem dX8_from_67 : decode cX8_from 67 = .ok (.iconst 1, 1) := by decide +kernel
theorem dX8_from_68 : decode cX8_from 68 = .ok (.goto 4, 3) := by decide +kernel
theorem dX8_from_71 : decode cX8_from 71 = .ok (.iconst 0, 1) := by decide +kernel
theorem dX8_from_72 : decode cX8_from 72 = .ok (.iadd, 1) := by decide +kernel
theorem dX8_from_73 : decode cX8_from 73 = .ok (.istore_n 3, 1) := by decide +kernel
theorem dX8_from_74 : decode cX8_from 74 = .ok (.aload_n 0, 1) := by decide +kernel
theorem dX8_from_75 : decode cX8_from 75 = .ok (.getfield 28, 3) := by decide +kernel
theorem dX8_from_78 : decode cX8_from 78 = .ok (.iload 5, 2) := by decide +kernel
theorem dX8_from_80 : decode cX8_from 80 = .ok (.iaload, 1) := by decide +kernel
theorem dX8_from_81 : decode cX8_from 81 = .ok (.iload_n 2, 1) := by decide +kernel
theorem dX8_from_82 : decode cX8_from 82 = .ok (.if_icmp .ne 8, 3) := by decide +kernel
theorem dX8_from_85 : decode cX8_from 85 = .ok (.iload 5, 2) := by decide +kernel
theorem dX8_from_87 : decode cX8_from 87 = .ok (.goto 5, 3) := by decide +kernel
theorem dX8_from_90 : decode cX8_from 90 = .ok (.iload 4, 2) := by decide +kernel
theorem dX8_from_92 : decode cX8_from 92 = .ok (.istore 4, 2) := by decide +kernel
theorem dX8_from_94 : decode cX8_from 94 = .ok (.iinc 5 (-1), 3) := by decide +kernel
theorem dX8_from_97 : decode cX8_from 97 = .ok (.goto (-47), 3) := by decide +kernel
theorem dX8_from_100 : decode cX8_from 100 = .ok (.iload_n 1, 1) := by decide +kernel
theorem dX8_from_101 : decode cX8_from 101 = .ok (.ifCond .ge 5, 3) := by decide +kernel
theorem dX8_from_104 : decode cX8_from 104 = .ok (.iload_n 3, 1) := by decide +kernel
theorem dX8_from_105 : decode cX8_from 105 = .ok (.ireturn, 1) := by decide +kernel
theorem dX8_from_106 : decode cX8_from 106 = .ok (.iload_n 3, 1) := by decide +kernel
theorem dX8_from_107 : decode cX8_from 107 = .ok (.ifCond .eq 11, 3) := by decide +kernel
theorem dX8_from_110 : decode cX8_from 110 = .ok (.aload_n 0, 1) := by decide +kernel
theorem dX8_from_111 : decode cX8_from 111 = .ok (.iload_n 1, 1) := by decide +kernel
theorem dX8_from_112 : decode cX8_from 112 = .ok (.invokevirtual 149, 3) := by decide +kernel
theorem dX8_from_115 : decode cX8_from 115 = .ok (.ifCond .eq 6, 3) := by decide +kernel
theorem dX8_from_118 : decode cX8_from 118 = .ok (.bipush (-9), 2) := by decide +kernel
theorem dX8_from_120 : decode cX8_from 120 = .ok (.ireturn, 1) := by decide +kernel
theorem dX8_from_121 : decode cX8_from 121 = .ok (.aload_n 0, 1) := by decide +kernel
theorem dX8_from_122 : decode cX8_from 122 = .ok (.iload 4, 2) := by decide +kernel
theorem dX8_from_124 : decode cX8_from 124 = .ok (.invokevirtual 173, 3) := by decide +kernel
theorem dX8_from_127 : decode cX8_from 127 = .ok (.aload_n 0, 1) := by decide +kernel
theorem dX8_from_128 : decode cX8_from 128 = .ok (.getfield 22, 3) := by decide +kernel
theorem dX8_from_131 : decode cX8_from 131 = .ok (.iload_n 1, 1) := by decide +kernel
theorem dX8_from_132 : decode cX8_from 132 = .ok (.iaload, 1) := by decide +kernel
theorem dX8_from_133 : decode cX8_from 133 = .ok (.ireturn, 1) := by decide +kernel
theorem dX8_rounds_0 : decode cX8_rounds 0 = .ok (.iconst 0, 1) := by decide +kernel
theorem dX8_rounds_1 : decode cX8_rounds 1 = .ok (.istore_n 1, 1) := by decide +kernel
theorem dX8_rounds_2 : decode cX8_rounds 2 = .ok (.iconst 0, 1) := by decide +kernel
theorem dX8_rounds_3 : decode cX8_rounds 3 = .ok (.istore_n 2, 1) := by decide +kernel
theorem dX8_rounds_4 : decode cX8_rounds 4 = .ok (.iload_n 2, 1) := by decide +kernel
theorem dX8_rounds_5 : decode cX8_rounds 5 = .ok (.aload_n 0, 1) := by decide +kernel
theorem dX8_rounds_6 : decode cX8_rounds 6 = .ok (.invokevirtual 170, 3) := by decide +kernel
theorem dX8_rounds_9 : decode cX8_rounds 9 = .ok (.if_icmp .ge 100, 3) := by decide +kernel
theorem dX8_rounds_12 : decode cX8_rounds 12 = .ok (.iload_n 2, 1) := by decide +kernel
theorem dX8_rounds_13 : decode cX8_rounds 13 = .ok (.istore_n 3, 1) := by decide +kernel
theorem dX8_rounds_14 : decode cX8_rounds 14 = .ok (.aload_n 0, 1) := by decide +kernel
theorem dX8_rounds_15 : decode cX8_rounds 15 = .ok (.getfield 31, 3) := by decide +kernel
theorem dX8_rounds_18 : decode cX8_rounds 18 = .ok (.iload_n 2, 1) := by decide +kernel
theorem dX8_rounds_19 : decode cX8_rounds 19 = .ok (.iaload, 1) := by decide +kernel
theorem dX8_rounds_20 : decode cX8_rounds 20 = .ok (.ifCond .le 16, 3) := by decide +kernel
theorem dX8_rounds_23 : decode cX8_rounds 23 = .ok (.aload_n 0, 1) := by decide +kernel
theorem dX8_rounds_24 : decode cX8_rounds 24 = .ok (.getfield 37, 3) := by decide +kernel
theorem dX8_rounds_27 : decode cX8_rounds 27 = .ok (.iload_n 2, 1) := by decide +kernel
theorem dX8_rounds_28 : decode cX8_rounds 28 = .ok (.iaload, 1) := by decide +kernel
theorem dX8_rounds_29 : decode cX8_rounds 29 = .ok (.ifCond .ne 7, 3) := by decide +kernel
theorem dX8_rounds_32 : decode cX8_rounds 32 = .ok (.iconst 1, 1) := by decide +kernel
theorem dX8_rounds_33 : decode cX8_rounds 33 = .ok (.goto 4, 3) := by decide +kernel
theorem dX8_rounds_36 : decode cX8_rounds 36 = .ok (.iconst 0, 1) := by decide +kernel
theorem dX8_rounds_37 : decode cX8_rounds 37 = .ok (.istore 4, 2) := by decide +kernel
theorem dX8_rounds_39 : decode cX8_rounds 39 = .ok (.iload 4, 2) := by decide +kernel
theorem dX8_rounds_41 : decode cX8_rounds 41 = .ok (.ifCond .eq 11, 3) := by decide +kernel
theorem dX8_rounds_44 : decode cX8_rounds 44 = .ok (.aload_n 0, 1) := by decide +kernel
theorem dX8_rounds_45 : decode cX8_rounds 45 = .ok (.iload_n 2, 1) := by decide +kernel
theorem dX8_rounds_46 : decode cX8_rounds 46 = .ok (.invokevirtual 186, 3) := by decide +kernel
theorem dX8_rounds_49 : decode cX8_rounds 49 = .ok (.goto 4, 3) := by decide +kernel
theorem dX8_rounds_52 : decode cX8_rounds 52 = .ok (.iconst 0, 1) := by decide +kernel
theorem dX8_rounds_53 : decode cX8_rounds 53 = .ok (.istore 5, 2) := by decide +kernel
theorem dX8_rounds_55 : decode cX8_rounds 55 = .ok (.iload 5, 2) := by decide +kernel
theorem dX8_rounds_57 : decode cX8_rounds 57 = .ok (.ifCond .le 33, 3) := by decide +kernel
theorem dX8_rounds_60 : decode cX8_rounds 60 = .ok (.iload 4, 2) := by decide +kernel
theorem dX8_rounds_62 : decode cX8_rounds 62 = .ok (.ifCond .eq 12, 3) := by decide +kernel
theorem dX8_rounds_65 : decode cX8_rounds 65 = .ok (.iload_n 3, 1) := by decide +kernel
theorem dX8_rounds_66 : decode cX8_rounds 66 = .ok (.iload_n 2, 1) := by decide +kernel
theorem dX8_rounds_67 : decode cX8_rounds 67 = .ok (.if_icmp .lt 7, 3) := by decide +kernel
theorem dX8_rounds_70 : decode cX8_rounds 70 = .ok (.iconst 1, 1) := by decide +kernel
theorem dX8_rounds_71 : decode cX8_rounds 71 = .ok (.goto 4, 3) := by decide +kernel
theorem dX8_rounds_74 : decode cX8_rounds 74 = .ok (.iconst 0, 1) := by decide +kernel
theorem dX8_rounds_75 : decode cX8_rounds 75 = .ok (.istore 4, 2) := by decide +kernel
theorem dX8_rounds_77 : decode cX8_rounds 77 = .ok (.aload_n 0, 1) := by decide +kernel
theorem dX8_rounds_78 : decode cX8_rounds 78 = .ok (.getfield 28, 3) := by decide +kernel
theorem dX8_rounds_81 : decode cX8_rounds 81 = .ok (.iload_n 3, 1) := by decide +kernel
theorem dX8_rounds_82 : decode cX8_rounds 82 = .ok (.iaload, 1) := by decide +kernel
theorem dX8_rounds_83 : decode cX8_rounds 83 = .ok (.istore_n 3, 1) := by decide +kernel
theorem dX8_rounds_84 : decode cX8_rounds 84 = .ok (.iinc 5 (-1), 3) := by decide +kernel
theorem dX8_rounds_87 : decode cX8_rounds 87 = .ok (.goto (-32), 3) := by decide +kernel
theorem dX8_rounds_90 : decode cX8_rounds 90 = .ok (.iload_n 1, 1) := by decide +kernel
theorem dX8_rounds_91 : decode cX8_rounds 91 = .ok (.iload 4, 2) := by decide +kernel
theorem dX8_rounds_93 : decode cX8_rounds 93 = .ok (.ifCond .eq 7, 3) := by decide +kernel
theorem dX8_rounds_96 : decode cX8_rounds 96 = .ok (.iconst 1, 1) := by decide +kernel
theorem dX8_rounds_97 : decode cX8_rounds 97 = .ok (.goto 4, 3) := by decide +kernel
theorem dX8_rounds_100 : decode cX8_rounds 100 = .ok (.iconst 0, 1) := by decide +kernel
theorem dX8_rounds_101 : decode cX8_rounds 101 = .ok (.iadd, 1) := by decide +kernel
theorem dX8_rounds_102 : decode cX8_rounds 102 = .ok (.istore_n 1, 1) := by decide +kernel
theorem dX8_rounds_103 : decode cX8_rounds 103 = .ok (.iinc 2 1, 3) := by decide +kernel
theorem dX8_rounds_106 : decode cX8_rounds 106 = .ok (.goto (-102), 3) := by decide +kernel
theorem dX8_rounds_109 : decode cX8_rounds 109 = .ok (.iload_n 1, 1) := by decide +kernel
theorem dX8_rounds_110 : decode cX8_rounds 110 = .ok (.ireturn, 1) := by decide +kernel
theorem dX8_rows_0 : decode cX8_rows 0 = .ok (.iload_n 1, 1) := by decide +kernel
theorem dX8_rows_1 : decode cX8_rows 1 = .ok (.i2l, 1) := by decide +kernel
theorem dX8_rows_2 : decode cX8_rows 2 = .ok (.lconst 0, 1) := by decide +kernel
theorem dX8_rows_3 : decode cX8_rows 3 = .ok (.ldc2_w 220, 3) := by decide +kernel
theorem dX8_rows_6 : decode cX8_rows 6 = .ok (.invokestatic 80, 3) := by decide +kernel
theorem dX8_rows_9 : decode cX8_rows 9 = .ok (.ifCond .ne 6, 3) := by decide +kernel
theorem dX8_rows_12 : decode cX8_rows 12 = .ok (.bipush (-2), 2) := by decide +kernel
theorem dX8_rows_14 : decode cX8_rows 14 = .ok (.ireturn, 1) := by decide +kernel
theorem dX8_rows_15 : decode cX8_rows 15 = .ok (.aload_n 0, 1) := by decide +kernel
theorem dX8_rows_16 : decode cX8_rows 16 = .ok (.getfield 77, 3) := by decide +kernel
theorem dX8_rows_19 : decode cX8_rows 19 = .ok (.ifCond .ne 6, 3) := by decide +kernel
theorem dX8_rows_22 : decode cX8_rows 22 = .ok (.bipush (-3), 2) := by decide +kernel
theorem dX8_rows_24 : decode cX8_rows 24 = .ok (.ireturn, 1) := by decide +kernel
theorem dX8_rows_25 : decode cX8_rows 25 = .ok (.aload_n 0, 1) := by decide +kernel
theorem dX8_rows_26 : decode cX8_rows 26 = .ok (.invokevirtual 194, 3) := by decide +kernel
theorem dX8_rows_29 : decode cX8_rows 29 = .ok (.aload_n 0, 1) := by decide +kernel
theorem dX8_rows_30 : decode cX8_rows 30 = .ok (.invokevirtual 170, 3) := by decide +kernel
theorem dX8_rows_33 : decode cX8_rows 33 = .ok (.istore_n 2, 1) := by decide +kernel
theorem dX8_rows_34 : decode cX8_rows 34 = .ok (.iconst 0, 1) := by decide +kernel
theorem dX8_rows_35 : decode cX8_rows 35 = .ok (.istore_n 3, 1) := by decide +kernel
theorem dX8_rows_36 : decode cX8_rows 36 = .ok (.iconst 0, 1) := by decide +kernel
theorem dX8_rows_37 : decode cX8_rows 37 = .ok (.istore 4, 2) := by decide +kernel
theorem dX8_rows_39 : decode cX8_rows 39 = .ok (.iconst 0, 1) := by decide +kernel
theorem dX8_rows_40 : decode cX8_rows 40 = .ok (.istore 5, 2) := by decide +kernel
theorem dX8_rows_42 : decode cX8_rows 42 = .ok (.iload 5, 2) := by decide +kernel
theorem dX8_rows_44 : decode cX8_rows 44 = .ok (.iload_n 2, 1) := by decide +kernel
theorem dX8_rows_45 : decode cX8_rows 45 = .ok (.if_icmp .ge 41, 3) := by decide +kernel
theorem dX8_rows_48 : decode cX8_rows 48 = .ok (.iload_n 3, 1) := by decide +kernel
theorem dX8_rows_49 : decode cX8_rows 49 = .ok (.aload_n 0, 1) := by decide +kernel
theorem dX8_rows_50 : decode cX8_rows 50 = .ok (.getfield 28, 3) := by decide +kernel
theorem dX8_rows_53 : decode cX8_rows 53 = .ok (.iload 5, 2) := by decide +kernel
theorem dX8_rows_55 : decode cX8_rows 55 = .ok (.iaload, 1) := by decide +kernel
theorem dX8_rows_56 : decode cX8_rows 56 = .ok (.iload 5, 2) := by decide +kernel
theorem dX8_rows_58 : decode cX8_rows 58 = .ok (.if_icmp .ne 7, 3) := by decide +kernel
theorem dX8_rows_61 : decode cX8_rows 61 = .ok (.iconst 1, 1) := by decide +kernel
theorem dX8_rows_62 : decode cX8_rows 62 = .ok (.goto 4, 3) := by decide +kernel
theorem dX8_rows_65 : decode cX8_rows 65 = .ok (.iconst 0, 1) := by decide +kernel
theorem dX8_rows_66 : decode cX8_rows 66 = .ok (.iadd, 1) := by decide +kernel
theorem dX8_rows_67 : decode cX8_rows 67 = .ok (.istore_n 3, 1) := by decide +kernel
theorem dX8_rows_68 : decode cX8_rows 68 = .ok (.iload 4, 2) := by decide +kernel
theorem dX8_rows_70 : decode cX8_rows 70 = .ok (.aload_n 0, 1) := by decide +kernel
theorem dX8_rows_71 : decode cX8_rows 71 = .ok (.getfield 40, 3) := by decide +kernel
theorem dX8_rows_74 : decode cX8_rows 74 = .ok (.iload 5, 2) := by decide +kernel
theorem dX8_rows_76 : decode cX8_rows 76 = .ok (.iaload, 1) := by decide +kernel
theorem dX8_rows_77 : decode cX8_rows 77 = .ok (.iadd, 1) := by decide +kernel
theorem dX8_rows_78 : decode cX8_rows 78 = .ok (.istore 4, 2) := by decide +kernel
theorem dX8_rows_80 : decode cX8_rows 80 = .ok (.iinc 5 1, 3) := by decide +kernel
theorem dX8_rows_83 : decode cX8_rows 83 = .ok (.goto (-41), 3) := by decide +kernel
theorem dX8_rows_86 : decode cX8_rows 86 = .ok (.iload_n 1, 1) := by decide +kernel
theorem dX8_rows_87 : decode cX8_rows 87 = .ok (.ifCond .ne 7, 3) := by decide +kernel
theorem dX8_rows_90 : decode cX8_rows 90 = .ok (.iload_n 2, 1) := by decide +kernel
theorem dX8_rows_91 : decode cX8_rows 91 = .ok (.goto 38, 3) := by decide +kernel
theorem dX8_rows_94 : decode cX8_rows 94 = .ok (.iload_n 1, 1) := by decide +kernel
theorem dX8_rows_95 : decode cX8_rows 95 = .ok (.iconst 1, 1) := by decide +kernel
theorem dX8_rows_96 : decode cX8_rows 96 = .ok (.if_icmp .ne 7, 3) := by decide +kernel
theorem dX8_rows_99 : decode cX8_rows 99 = .ok (.iload_n 3, 1) := by decide +kernel
theorem dX8_rows_100 : decode cX8_rows 100 = .ok (.goto 29, 3) := by decide +kernel
theorem dX8_rows_103 : decode cX8_rows 103 = .ok (.iload_n 1, 1) := by decide +kernel
theorem dX8_rows_104 : decode cX8_rows 104 = .ok (.iconst 2, 1) := by decide +kernel
theorem dX8_rows_105 : decode cX8_rows 105 = .ok (.if_icmp .ne 10, 3) := by decide +kernel
theorem dX8_rows_108 : decode cX8_rows 108 = .ok (.aload_n 0, 1) := by decide +kernel
theorem dX8_rows_109 : decode cX8_rows 109 = .ok (.getfield 179, 3) := by decide +kernel
theorem dX8_rows_112 : decode cX8_rows 112 = .ok (.goto 17, 3) := by decide +kernel
theorem dX8_rows_115 : decode cX8_rows 115 = .ok (.iload_n 1, 1) := by decide +kernel
theorem dX8_rows_116 : decode cX8_rows 116 = .ok (.iconst 3, 1) := by decide +kernel
theorem dX8_rows_117 : decode cX8_rows 117 = .ok (.if_icmp .ne 8, 3) := by decide +kernel
theorem dX8_rows_120 : decode cX8_rows 120 = .ok (.iload 4, 2) := by decide +kernel
theorem dX8_rows_122 : decode cX8_rows 122 = .ok (.goto 7, 3) := by decide +kernel
theorem dX8_rows_125 : decode cX8_rows 125 = .ok (.aload_n 0, 1) := by decide +kernel
theorem dX8_rows_126 : decode cX8_rows 126 = .ok (.invokevirtual 234, 3) := by decide +kernel
theorem dX8_rows_129 : decode cX8_rows 129 = .ok (.ireturn, 1) := by decide +kernel
theorem dX8_longest_0 : decode cX8_longest 0 = .ok (.iload_n 1, 1) := by decide +kernel
theorem dX8_longest_1 : decode cX8_longest 1 = .ok (.i2l, 1) := by decide +kernel
theorem dX8_longest_2 : decode cX8_longest 2 = .ok (.ldc2_w 232, 3) := by decide +kernel
theorem dX8_longest_5 : decode cX8_longest 5 = .ok (.ldc2_w 220, 3) := by decide +kernel
theorem dX8_longest_8 : decode cX8_longest 8 = .ok (.invokestatic 80, 3) := by decide +kernel
theorem dX8_longest_11 : decode cX8_longest 11 = .ok (.ifCond .ne 6, 3) := by decide +kernel
theorem dX8_longest_14 : decode cX8_longest 14 = .ok (.bipush (-2), 2) := by decide +kernel
theorem dX8_longest_16 : decode cX8_longest 16 = .ok (.ireturn, 1) := by decide +kernel
theorem dX8_longest_17 : decode cX8_longest 17 = .ok (.aload_n 0, 1) := by decide +kernel
theorem dX8_longest_18 : decode cX8_longest 18 = .ok (.getfield 77, 3) := by decide +kernel
theorem dX8_longest_21 : decode cX8_longest 21 = .ok (.ifCond .ne 6, 3) := by decide +kernel
theorem dX8_longest_24 : decode cX8_longest 24 = .ok (.bipush (-3), 2) := by decide +kernel
theorem dX8_longest_26 : decode cX8_longest 26 = .ok (.ireturn, 1) := by decide +kernel
theorem dX8_longest_27 : decode cX8_longest 27 = .ok (.aload_n 0, 1) := by decide +kernel
theorem dX8_longest_28 : decode cX8_longest 28 = .ok (.invokevirtual 194, 3) := by decide +kernel
theorem dX8_longest_31 : decode cX8_longest 31 = .ok (.iconst 0, 1) := by decide +kernel
theorem dX8_longest_32 : decode cX8_longest 32 = .ok (.istore_n 2, 1) := by decide +kernel
theorem dX8_longest_33 : decode cX8_longest 33 = .ok (.iconst 1, 1) := by decide +kernel
theorem dX8_longest_34 : decode cX8_longest 34 = .ok (.istore_n 3, 1) := by decide +kernel
theorem dX8_longest_35 : decode cX8_longest 35 = .ok (.iload_n 3, 1) := by decide +kernel
theorem dX8_longest_36 : decode cX8_longest 36 = .ok (.aload_n 0, 1) := by decide +kernel
theorem dX8_longest_37 : decode cX8_longest 37 = .ok (.invokevirtual 170, 3) := by decide +kernel
theorem dX8_longest_40 : decode cX8_longest 40 = .ok (.if_icmp .ge 30, 3) := by decide +kernel
theorem dX8_longest_43 : decode cX8_longest 43 = .ok (.aload_n 0, 1) := by decide +kernel
theorem dX8_longest_44 : decode cX8_longest 44 = .ok (.getfield 37, 3) := by decide +kernel
theorem dX8_longest_47 : decode cX8_longest 47 = .ok (.iload_n 3, 1) := by decide +kernel
theorem dX8_longest_48 : decode cX8_longest 48 = .ok (.iaload, 1) := by decide +kernel
theorem dX8_longest_49 : decode cX8_longest 49 = .ok (.aload_n 0, 1) := by decide +kernel
theorem dX8_longest_50 : decode cX8_longest 50 = .ok (.getfield 37, 3) := by decide +kernel
theorem dX8_longest_53 : decode cX8_longest 53 = .ok (.iload_n 2, 1) := by decide +kernel
theorem dX8_longest_54 : decode cX8_longest 54 = .ok (.iaload, 1) := by decide +kernel
theorem dX8_longest_55 : decode cX8_longest 55 = .ok (.if_icmp .le 7, 3) := by decide +kernel
theorem dX8_longest_58 : decode cX8_longest 58 = .ok (.iload_n 3, 1) := by decide +kernel
theorem dX8_longest_59 : decode cX8_longest 59 = .ok (.goto 4, 3) := by decide +kernel
theorem dX8_longest_62 : decode cX8_longest 62 = .ok (.iload_n 2, 1) := by decide +kernel
theorem dX8_longest_63 : decode cX8_longest 63 = .ok (.istore_n 2, 1) := by decide +kernel
theorem dX8_longest_64 : decode cX8_longest 64 = .ok (.iinc 3 1, 3) := by decide +kernel
theorem dX8_longest_67 : decode cX8_longest 67 = .ok (.goto (-32), 3) := by decide +kernel
theorem dX8_longest_70 : decode cX8_longest 70 = .ok (.iload_n 1, 1) := by decide +kernel
theorem dX8_longest_71 : decode cX8_longest 71 = .ok (.ifCond .ge 10, 3) := by decide +kernel
theorem dX8_longest_74 : decode cX8_longest 74 = .ok (.aload_n 0, 1) := by decide +kernel
theorem dX8_longest_75 : decode cX8_longest 75 = .ok (.getfield 37, 3) := by decide +kernel
theorem dX8_longest_78 : decode cX8_longest 78 = .ok (.iload_n 2, 1) := by decide +kernel
theorem dX8_longest_79 : decode cX8_longest 79 = .ok (.iaload, 1) := by decide +kernel
theorem dX8_longest_80 : decode cX8_longest 80 = .ok (.ireturn, 1) := by decide +kernel
theorem dX8_longest_81 : decode cX8_longest 81 = .ok (.aload_n 0, 1) := by decide +kernel
theorem dX8_longest_82 : decode cX8_longest 82 = .ok (.iload_n 2, 1) := by decide +kernel
theorem dX8_longest_83 : decode cX8_longest 83 = .ok (.invokevirtual 173, 3) := by decide +kernel
theorem dX8_longest_86 : decode cX8_longest 86 = .ok (.aload_n 0, 1) := by decide +kernel
theorem dX8_longest_87 : decode cX8_longest 87 = .ok (.iload_n 1, 1) := by decide +kernel
theorem dX8_longest_88 : decode cX8_longest 88 = .ok (.invokevirtual 149, 3) := by decide +kernel
theorem dX8_longest_91 : decode cX8_longest 91 = .ok (.ifCond .eq 8, 3) := by decide +kernel
theorem dX8_longest_94 : decode cX8_longest 94 = .ok (.bipush (-9), 2) := by decide +kernel
theorem dX8_longest_96 : decode cX8_longest 96 = .ok (.goto 9, 3) := by decide +kernel
theorem dX8_longest_99 : decode cX8_longest 99 = .ok (.aload_n 0, 1) := by decide +kernel
theorem dX8_longest_100 : decode cX8_longest 100 = .ok (.getfield 22, 3) := by decide +kernel
theorem dX8_longest_103 : decode cX8_longest 103 = .ok (.iload_n 1, 1) := by decide +kernel
theorem dX8_longest_104 : decode cX8_longest 104 = .ok (.iaload, 1) := by decide +kernel
theorem dX8_longest_105 : decode cX8_longest 105 = .ok (.ireturn, 1) := by decide +kernel
theorem dX8_meet_0 : decode cX8_meet 0 = .ok (.aload_n 0, 1) := by decide +kernel
theorem dX8_meet_1 : decode cX8_meet 1 = .ok (.getfield 77, 3) := by decide +kernel
theorem dX8_meet_4 : decode cX8_meet 4 = .ok (.ifCond .ne 10, 3) := by decide +kernel
theorem dX8_meet_7 : decode cX8_meet 7 = .ok (.aload_n 0, 1) := by decide +kernel
theorem dX8_meet_8 : decode cX8_meet 8 = .ok (.bipush (-3), 2) := by decide +kernel
theorem dX8_meet_10 : decode cX8_meet 10 = .ok (.invokevirtual 117, 3) := by decide +kernel
theorem dX8_meet_13 : decode cX8_meet 13 = .ok (.ireturn, 1) := by decide +kernel
theorem dX8_meet_14 : decode cX8_meet 14 = .ok (.iload_n 1, 1) := by decide +kernel
theorem dX8_meet_15 : decode cX8_meet 15 = .ok (.invokestatic 113, 3) := by decide +kernel
theorem dX8_meet_18 : decode cX8_meet 18 = .ok (.ifCond .eq 9, 3) := by decide +kernel
theorem dX8_meet_21 : decode cX8_meet 21 = .ok (.aload_n 0, 1) := by decide +kernel
theorem dX8_meet_22 : decode cX8_meet 22 = .ok (.iconst (-1), 1) := by decide +kernel
theorem dX8_meet_23 : decode cX8_meet 23 = .ok (.invokevirtual 117, 3) := by decide +kernel
theorem dX8_meet_26 : decode cX8_meet 26 = .ok (.ireturn, 1) := by decide +kernel
theorem dX8_meet_27 : decode cX8_meet 27 = .ok (.iload_n 2, 1) := by decide +kernel
theorem dX8_meet_28 : decode cX8_meet 28 = .ok (.i2l, 1) := by decide +kernel
theorem dX8_meet_29 : decode cX8_meet 29 = .ok (.lconst 0, 1) := by decide +kernel
theorem dX8_meet_30 : decode cX8_meet 30 = .ok (.ldc2_w 97, 3) := by decide +kernel
theorem dX8_meet_33 : decode cX8_meet 33 = .ok (.invokestatic 80, 3) := by decide +kernel
theorem dX8_meet_36 : decode cX8_meet 36 = .ok (.ifCond .ne 10, 3) := by decide +kernel
theorem dX8_meet_39 : decode cX8_meet 39 = .ok (.aload_n 0, 1) := by decide +kernel
theorem dX8_meet_40 : decode cX8_meet 40 = .ok (.bipush (-2), 2) := by decide +kernel
theorem dX8_meet_42 : decode cX8_meet 42 = .ok (.invokevirtual 117, 3) := by decide +kernel
theorem dX8_meet_45 : decode cX8_meet 45 = .ok (.ireturn, 1) := by decide +kernel
theorem dX8_meet_46 : decode cX8_meet 46 = .ok (.aload_n 0, 1) := by decide +kernel
theorem dX8_meet_47 : decode cX8_meet 47 = .ok (.iload_n 1, 1) := by decide +kernel
theorem dX8_meet_48 : decode cX8_meet 48 = .ok (.iload_n 2, 1) := by decide +kernel
theorem dX8_meet_49 : decode cX8_meet 49 = .ok (.iload_n 3, 1) := by decide +kernel
theorem dX8_meet_50 : decode cX8_meet 50 = .ok (.aload_n 0, 1) := by decide +kernel
theorem dX8_meet_51 : decode cX8_meet 51 = .ok (.getfield 77, 3) := by decide +kernel
theorem dX8_meet_54 : decode cX8_meet 54 = .ok (.i2l, 1) := by decide +kernel
theorem dX8_meet_55 : decode cX8_meet 55 = .ok (.invokevirtual 120, 3) := by decide +kernel
theorem dX8_meet_58 : decode cX8_meet 58 = .ok (.istore 4, 2) := by decide +kernel
theorem dX8_meet_60 : decode cX8_meet 60 = .ok (.iload 4, 2) := by decide +kernel
theorem dX8_meet_62 : decode cX8_meet 62 = .ok (.ifCond .ge 6, 3) := by decide +kernel
theorem dX8_meet_65 : decode cX8_meet 65 = .ok (.iload 4, 2) := by decide +kernel
theorem dX8_meet_67 : decode cX8_meet 67 = .ok (.ireturn, 1) := by decide +kernel
theorem dX8_meet_68 : decode cX8_meet 68 = .ok (.iconst 0, 1) := by decide +kernel
theorem dX8_meet_69 : decode cX8_meet 69 = .ok (.istore 5, 2) := by decide +kernel
theorem dX8_meet_71 : decode cX8_meet 71 = .ok (.iconst 0, 1) := by decide +kernel
theorem dX8_meet_72 : decode cX8_meet 72 = .ok (.istore 6, 2) := by decide +kernel
theorem dX8_meet_74 : decode cX8_meet 74 = .ok (.iload 6, 2) := by decide +kernel
theorem dX8_meet_76 : decode cX8_meet 76 = .ok (.aload_n 0, 1) := by decide +kernel
theorem dX8_meet_77 : decode cX8_meet 77 = .ok (.getfield 77, 3) := by decide +kernel
theorem dX8_meet_80 : decode cX8_meet 80 = .ok (.if_icmp .ge 61, 3) := by decide +kernel
theorem dX8_meet_83 : decode cX8_meet 83 = .ok (.aload_n 0, 1) := by decide +kernel
theorem dX8_meet_84 : decode cX8_meet 84 = .ok (.aload_n 0, 1) := by decide +kernel
theorem dX8_meet_85 : decode cX8_meet 85 = .ok (.getfield 61, 3) := by decide +kernel
theorem dX8_meet_88 : decode cX8_meet 88 = .ok (.bipush 60, 2) := by decide +kernel
theorem dX8_meet_90 : decode cX8_meet 90 = .ok (.iload_n 1, 1) := by decide +kernel
theorem dX8_meet_91 : decode cX8_meet 91 = .ok (.imul, 1) := by decide +kernel
theorem dX8_meet_92 : decode cX8_meet 92 = .ok (.iload_n 3, 1) := by decide +kernel
theorem dX8_meet_93 : decode cX8_meet 93 = .ok (.iadd, 1) := by decide +kernel
theorem dX8_meet_94 : decode cX8_meet 94 = .ok (.iload 6, 2) := by decide +kernel
theorem dX8_meet_96 : decode cX8_meet 96 = .ok (.iadd, 1) := by decide +kernel
theorem dX8_meet_97 : decode cX8_meet 97 = .ok (.iaload, 1) := by decide +kernel
theorem dX8_meet_98 : decode cX8_meet 98 = .ok (.invokevirtual 152, 3) := by decide +kernel
theorem dX8_meet_101 : decode cX8_meet 101 = .ok (.ifCond .ne 10, 3) := by decide +kernel
theorem dX8_meet_104 : decode cX8_meet 104 = .ok (.aload_n 0, 1) := by decide +kernel
theorem dX8_meet_105 : decode cX8_meet 105 = .ok (.bipush (-2), 2) := by decide +kernel
theorem dX8_meet_107 : decode cX8_meet 107 = .ok (.invokevirtual 117, 3) := by decide +kernel
theorem dX8_meet_110 : decode cX8_meet 110 = .ok (.ireturn, 1) := by decide +kernel
theorem dX8_meet_111 : decode cX8_meet 111 = .ok (.aload_n 0, 1) := by decide +kernel
theorem dX8_meet_112 : decode cX8_meet 112 = .ok (.getfield 127, 3) := by decide +kernel
theorem dX8_meet_115 : decode cX8_meet 115 = .ok (.iload 5, 2) := by decide +kernel
theorem dX8_meet_117 : decode cX8_meet 117 = .ok (.imul, 1) := by decide +kernel
theorem dX8_meet_118 : decode cX8_meet 118 = .ok (.aload_n 0, 1) := by decide +kernel
theorem dX8_meet_119 : decode cX8_meet 119 = .ok (.getfield 61, 3) := by decide +kernel
theorem dX8_meet_122 : decode cX8_meet 122 = .ok (.bipush 60, 2) := by decide +kernel
theorem dX8_meet_124 : decode cX8_meet 124 = .ok (.iload_n 1, 1) := by decide +kernel
theorem dX8_meet_125 : decode cX8_meet 125 = .ok (.imul, 1) := by decide +kernel
theorem dX8_meet_126 : decode cX8_meet 126 = .ok (.iload_n 3, 1) := by decide +kernel
theorem dX8_meet_127 : decode cX8_meet 127 = .ok (.iadd, 1) := by decide +kernel
theorem dX8_meet_128 : decode cX8_meet 128 = .ok (.iload 6, 2) := by decide +kernel
theorem dX8_meet_130 : decode cX8_meet 130 = .ok (.iadd, 1) := by decide +kernel
theorem dX8_meet_131 : decode cX8_meet 131 = .ok (.iaload, 1) := by decide +kernel
theorem dX8_meet_132 : decode cX8_meet 132 = .ok (.iadd, 1) := by decide +kernel
theorem dX8_meet_133 : decode cX8_meet 133 = .ok (.istore 5, 2) := by decide +kernel
theorem dX8_meet_135 : decode cX8_meet 135 = .ok (.iinc 6 1, 3) := by decide +kernel
theorem dX8_meet_138 : decode cX8_meet 138 = .ok (.goto (-64), 3) := by decide +kernel
theorem dX8_meet_141 : decode cX8_meet 141 = .ok (.aload_n 0, 1) := by decide +kernel
theorem dX8_meet_142 : decode cX8_meet 142 = .ok (.invokevirtual 191, 3) := by decide +kernel
theorem dX8_meet_145 : decode cX8_meet 145 = .ok (.istore 6, 2) := by decide +kernel
theorem dX8_meet_147 : decode cX8_meet 147 = .ok (.aload_n 0, 1) := by decide +kernel
theorem dX8_meet_148 : decode cX8_meet 148 = .ok (.invokevirtual 194, 3) := by decide +kernel
theorem dX8_meet_151 : decode cX8_meet 151 = .ok (.iconst 0, 1) := by decide +kernel
theorem dX8_meet_152 : decode cX8_meet 152 = .ok (.istore 7, 2) := by decide +kernel
theorem dX8_meet_154 : decode cX8_meet 154 = .ok (.iload 7, 2) := by decide +kernel
theorem dX8_meet_156 : decode cX8_meet 156 = .ok (.sipush 7776, 3) := by decide +kernel
theorem dX8_meet_159 : decode cX8_meet 159 = .ok (.if_icmp .gt 34, 3) := by decide +kernel
theorem dX8_meet_162 : decode cX8_meet 162 = .ok (.iload 6, 2) := by decide +kernel
theorem dX8_meet_164 : decode cX8_meet 164 = .ok (.iload 5, 2) := by decide +kernel
theorem dX8_meet_166 : decode cX8_meet 166 = .ok (.if_icmp .eq 27, 3) := by decide +kernel
theorem dX8_meet_169 : decode cX8_meet 169 = .ok (.aload_n 0, 1) := by decide +kernel
theorem dX8_meet_170 : decode cX8_meet 170 = .ok (.getfield 28, 3) := by decide +kernel
theorem dX8_meet_173 : decode cX8_meet 173 = .ok (.iload 6, 2) := by decide +kernel
theorem dX8_meet_175 : decode cX8_meet 175 = .ok (.iaload, 1) := by decide +kernel
theorem dX8_meet_176 : decode cX8_meet 176 = .ok (.istore 6, 2) := by decide +kernel
theorem dX8_meet_178 : decode cX8_meet 178 = .ok (.aload_n 0, 1) := by decide +kernel
theorem dX8_meet_179 : decode cX8_meet 179 = .ok (.getfield 28, 3) := by decide +kernel
theorem dX8_meet_182 : decode cX8_meet 182 = .ok (.iload 5, 2) := by decide +kernel
theorem dX8_meet_184 : decode cX8_meet 184 = .ok (.iaload, 1) := by decide +kernel
theorem dX8_meet_185 : decode cX8_meet 185 = .ok (.istore 5, 2) := by decide +kernel
theorem dX8_meet_187 : decode cX8_meet 187 = .ok (.iinc 7 1, 3) := by decide +kernel
theorem dX8_meet_190 : decode cX8_meet 190 = .ok (.goto (-36), 3) := by decide +kernel
theorem dX8_meet_193 : decode cX8_meet 193 = .ok (.aload_n 0, 1) := by decide +kernel
theorem dX8_meet_194 : decode cX8_meet 194 = .ok (.iload 6, 2) := by decide +kernel
theorem dX8_meet_196 : decode cX8_meet 196 = .ok (.iload 5, 2) := by decide +kernel
theorem dX8_meet_198 : decode cX8_meet 198 = .ok (.if_icmp .ne 8, 3) := by decide +kernel
theorem dX8_meet_201 : decode cX8_meet 201 = .ok (.iload 7, 2) := by decide +kernel
theorem dX8_meet_203 : decode cX8_meet 203 = .ok (.goto 5, 3) := by decide +kernel
theorem dX8_meet_206 : decode cX8_meet 206 = .ok (.bipush (-9), 2) := by decide +kernel
theorem dX8_meet_208 : decode cX8_meet 208 = .ok (.invokevirtual 117, 3) := by decide +kernel
theorem dX8_meet_211 : decode cX8_meet 211 = .ok (.ireturn, 1) := by decide +kernel
theorem dX8_unlikeNow_0 : decode cX8_unlikeNow 0 = .ok (.aload_n 0, 1) := by decide +kernel
theorem dX8_unlikeNow_1 : decode cX8_unlikeNow 1 = .ok (.iload_n 1, 1) := by decide +kernel
theorem dX8_unlikeNow_2 : decode cX8_unlikeNow 2 = .ok (.invokevirtual 173, 3) := by decide +kernel
theorem dX8_unlikeNow_5 : decode cX8_unlikeNow 5 = .ok (.iconst 0, 1) := by decide +kernel
theorem dX8_unlikeNow_6 : decode cX8_unlikeNow 6 = .ok (.istore_n 2, 1) := by decide +kernel
theorem dX8_unlikeNow_7 : decode cX8_unlikeNow 7 = .ok (.iconst 0, 1) := by decide +kernel
theorem dX8_unlikeNow_8 : decode cX8_unlikeNow 8 = .ok (.istore_n 3, 1) := by decide +kernel
theorem dX8_unlikeNow_9 : decode cX8_unlikeNow 9 = .ok (.iload_n 3, 1) := by decide +kernel
theorem dX8_unlikeNow_10 : decode cX8_unlikeNow 10 = .ok (.aload_n 0, 1) := by decide +kernel
theorem dX8_unlikeNow_11 : decode cX8_unlikeNow 11 = .ok (.getfield 77, 3) := by decide +kernel
theorem dX8_unlikeNow_14 : decode cX8_unlikeNow 14 = .ok (.if_icmp .ge 34, 3) := by decide +kernel
theorem dX8_unlikeNow_17 : decode cX8_unlikeNow 17 = .ok (.iload_n 2, 1) := by decide +kernel
theorem dX8_unlikeNow_18 : decode cX8_unlikeNow 18 = .ok (.aload_n 0, 1) := by decide +kernel
theorem dX8_unlikeNow_19 : decode cX8_unlikeNow 19 = .ok (.getfield 22, 3) := by decide +kernel
theorem dX8_unlikeNow_22 : decode cX8_unlikeNow 22 = .ok (.iload_n 3, 1) := by decide +kernel
theorem dX8_unlikeNow_23 : decode cX8_unlikeNow 23 = .ok (.iaload, 1) := by decide +kernel
theorem dX8_unlikeNow_24 : decode cX8_unlikeNow 24 = .ok (.aload_n 0, 1) := by decide +kernel
theorem dX8_unlikeNow_25 : decode cX8_unlikeNow 25 = .ok (.getfield 13, 3) := by decide +kernel
theorem dX8_unlikeNow_28 : decode cX8_unlikeNow 28 = .ok (.iload_n 3, 1) := by decide +kernel
theorem dX8_unlikeNow_29 : decode cX8_unlikeNow 29 = .ok (.iaload, 1) := by decide +kernel
theorem dX8_unlikeNow_30 : decode cX8_unlikeNow 30 = .ok (.if_icmp .eq 9, 3) := by decide +kernel
theorem dX8_unlikeNow_33 : decode cX8_unlikeNow 33 = .ok (.iconst 1, 1) := by decide +kernel
theorem dX8_unlikeNow_34 : decode cX8_unlikeNow 34 = .ok (.iload_n 3, 1) := by decide +kernel
theorem dX8_unlikeNow_35 : decode cX8_unlikeNow 35 = .ok (.ishl, 1) := by decide +kernel
theorem dX8_unlikeNow_36 : decode cX8_unlikeNow 36 = .ok (.goto 4, 3) := by decide +kernel
theorem dX8_unlikeNow_39 : decode cX8_unlikeNow 39 = .ok (.iconst 0, 1) := by decide +kernel
theorem dX8_unlikeNow_40 : decode cX8_unlikeNow 40 = .ok (.ior, 1) := by decide +kernel
theorem dX8_unlikeNow_41 : decode cX8_unlikeNow 41 = .ok (.istore_n 2, 1) := by decide +kernel
theorem dX8_unlikeNow_42 : decode cX8_unlikeNow 42 = .ok (.iinc 3 1, 3) := by decide +kernel
theorem dX8_unlikeNow_45 : decode cX8_unlikeNow 45 = .ok (.goto (-36), 3) := by decide +kernel
theorem dX8_unlikeNow_48 : decode cX8_unlikeNow 48 = .ok (.iload_n 2, 1) := by decide +kernel
theorem dX8_unlikeNow_49 : decode cX8_unlikeNow 49 = .ok (.ireturn, 1) := by decide +kernel
theorem dX8_few_0 : decode cX8_few 0 = .ok (.iload_n 1, 1) := by decide +kernel
theorem dX8_few_1 : decode cX8_few 1 = .ok (.i2l, 1) := by decide +kernel
theorem dX8_few_2 : decode cX8_few 2 = .ok (.lconst 0, 1) := by decide +kernel
theorem dX8_few_3 : decode cX8_few 3 = .ok (.lconst 1, 1) := by decide +kernel
theorem dX8_few_4 : decode cX8_few 4 = .ok (.invokestatic 80, 3) := by decide +kernel
theorem dX8_few_7 : decode cX8_few 7 = .ok (.ifCond .ne 6, 3) := by decide +kernel
theorem dX8_few_10 : decode cX8_few 10 = .ok (.bipush (-2), 2) := by decide +kernel
theorem dX8_few_12 : decode cX8_few 12 = .ok (.ireturn, 1) := by decide +kernel
theorem dX8_few_13 : decode cX8_few 13 = .ok (.aload_n 0, 1) := by decide +kernel
theorem dX8_few_14 : decode cX8_few 14 = .ok (.getfield 77, 3) := by decide +kernel
theorem dX8_few_17 : decode cX8_few 17 = .ok (.ifCond .ne 6, 3) := by decide +kernel
theorem dX8_few_20 : decode cX8_few 20 = .ok (.bipush (-3), 2) := by decide +kernel
theorem dX8_few_22 : decode cX8_few 22 = .ok (.ireturn, 1) := by decide +kernel
theorem dX8_few_23 : decode cX8_few 23 = .ok (.aload_n 0, 1) := by decide +kernel
theorem dX8_few_24 : decode cX8_few 24 = .ok (.invokevirtual 194, 3) := by decide +kernel
theorem dX8_few_27 : decode cX8_few 27 = .ok (.aload_n 0, 1) := by decide +kernel
theorem dX8_few_28 : decode cX8_few 28 = .ok (.iconst 0, 1) := by decide +kernel
theorem dX8_few_29 : decode cX8_few 29 = .ok (.invokevirtual 237, 3) := by decide +kernel
theorem dX8_few_32 : decode cX8_few 32 = .ok (.istore_n 2, 1) := by decide +kernel
theorem dX8_few_33 : decode cX8_few 33 = .ok (.iconst 1, 1) := by decide +kernel
theorem dX8_few_34 : decode cX8_few 34 = .ok (.istore_n 3, 1) := by decide +kernel
theorem dX8_few_35 : decode cX8_few 35 = .ok (.iload_n 3, 1) := by decide +kernel
theorem dX8_few_36 : decode cX8_few 36 = .ok (.aload_n 0, 1) := by decide +kernel
theorem dX8_few_37 : decode cX8_few 37 = .ok (.invokevirtual 170, 3) := by decide +kernel
theorem dX8_few_40 : decode cX8_few 40 = .ok (.if_icmp .ge 75, 3) := by decide +kernel
theorem dX8_few_43 : decode cX8_few 43 = .ok (.aload_n 0, 1) := by decide +kernel
theorem dX8_few_44 : decode cX8_few 44 = .ok (.iload_n 3, 1) := by decide +kernel
theorem dX8_few_45 : decode cX8_few 45 = .ok (.invokevirtual 237, 3) := by decide +kernel
theorem dX8_few_48 : decode cX8_few 48 = .ok (.istore 4, 2) := by decide +kernel
theorem dX8_few_50 : decode cX8_few 50 = .ok (.aload_n 0, 1) := by decide +kernel
theorem dX8_few_51 : decode cX8_few 51 = .ok (.getfield 40, 3) := by decide +kernel
theorem dX8_few_54 : decode cX8_few 54 = .ok (.iload_n 3, 1) := by decide +kernel
theorem dX8_few_55 : decode cX8_few 55 = .ok (.iaload, 1) := by decide +kernel
theorem dX8_few_56 : decode cX8_few 56 = .ok (.iconst 1, 1) := by decide +kernel
theorem dX8_few_57 : decode cX8_few 57 = .ok (.if_icmp .ne 37, 3) := by decide +kernel
theorem dX8_few_60 : decode cX8_few 60 = .ok (.iload 4, 2) := by decide +kernel
theorem dX8_few_62 : decode cX8_few 62 = .ok (.invokestatic 240, 3) := by decide +kernel
theorem dX8_few_65 : decode cX8_few 65 = .ok (.iload_n 2, 1) := by decide +kernel
theorem dX8_few_66 : decode cX8_few 66 = .ok (.invokestatic 240, 3) := by decide +kernel
theorem dX8_few_69 : decode cX8_few 69 = .ok (.if_icmp .lt 21, 3) := by decide +kernel
theorem dX8_few_72 : decode cX8_few 72 = .ok (.iload 4, 2) := by decide +kernel
theorem dX8_few_74 : decode cX8_few 74 = .ok (.invokestatic 240, 3) := by decide +kernel
theorem dX8_few_77 : decode cX8_few 77 = .ok (.iload_n 2, 1) := by decide +kernel
theorem dX8_few_78 : decode cX8_few 78 = .ok (.invokestatic 240, 3) := by decide +kernel
theorem dX8_few_81 : decode cX8_few 81 = .ok (.if_icmp .ne 13, 3) := by decide +kernel
theorem dX8_few_84 : decode cX8_few 84 = .ok (.iload 4, 2) := by decide +kernel
theorem dX8_few_86 : decode cX8_few 86 = .ok (.iload_n 2, 1) := by decide +kernel
theorem dX8_few_87 : decode cX8_few 87 = .ok (.if_icmp .ge 7, 3) := by decide +kernel
theorem dX8_few_90 : decode cX8_few 90 = .ok (.iconst 1, 1) := by decide +kernel
theorem dX8_few_91 : decode cX8_few 91 = .ok (.goto 4, 3) := by decide +kernel
theorem dX8_few_94 : decode cX8_few 94 = .ok (.iconst 0, 1) := by decide +kernel
theorem dX8_few_95 : decode cX8_few 95 = .ok (.istore 5, 2) := by decide +kernel
theorem dX8_few_97 : decode cX8_few 97 = .ok (.iload 5, 2) := by decide +kernel
theorem dX8_few_99 : decode cX8_few 99 = .ok (.ifCond .eq 8, 3) := by decide +kernel
theorem dX8_few_102 : decode cX8_few 102 = .ok (.iload 4, 2) := by decide +kernel
theorem dX8_few_104 : decode cX8_few 104 = .ok (.goto 4, 3) := by decide +kernel
theorem dX8_few_107 : decode cX8_few 107 = .ok (.iload_n 2, 1) := by decide +kernel
theorem dX8_few_108 : decode cX8_few 108 = .ok (.istore_n 2, 1) := by decide +kernel
theorem dX8_few_109 : decode cX8_few 109 = .ok (.iinc 3 1, 3) := by decide +kernel
theorem dX8_few_112 : decode cX8_few 112 = .ok (.goto (-77), 3) := by decide +kernel
theorem dX8_few_115 : decode cX8_few 115 = .ok (.iload_n 1, 1) := by decide +kernel
theorem dX8_few_116 : decode cX8_few 116 = .ok (.ifCond .ne 10, 3) := by decide +kernel
theorem dX8_few_119 : decode cX8_few 119 = .ok (.iload_n 2, 1) := by decide +kernel
theorem dX8_few_120 : decode cX8_few 120 = .ok (.invokestatic 240, 3) := by decide +kernel
theorem dX8_few_123 : decode cX8_few 123 = .ok (.goto 4, 3) := by decide +kernel
theorem dX8_few_126 : decode cX8_few 126 = .ok (.iload_n 2, 1) := by decide +kernel
theorem dX8_few_127 : decode cX8_few 127 = .ok (.ireturn, 1) := by decide +kernel
theorem dX8_reading_0 : decode cX8_reading 0 = .ok (.aload_n 0, 1) := by decide +kernel
theorem dX8_reading_1 : decode cX8_reading 1 = .ok (.iload_n 2, 1) := by decide +kernel
theorem dX8_reading_2 : decode cX8_reading 2 = .ok (.invokevirtual 149, 3) := by decide +kernel
theorem dX8_reading_5 : decode cX8_reading 5 = .ok (.ifCond .eq 5, 3) := by decide +kernel
theorem dX8_reading_8 : decode cX8_reading 8 = .ok (.iconst (-1), 1) := by decide +kernel
theorem dX8_reading_9 : decode cX8_reading 9 = .ok (.ireturn, 1) := by decide +kernel
theorem dX8_reading_10 : decode cX8_reading 10 = .ok (.iload_n 1, 1) := by decide +kernel
theorem dX8_reading_11 : decode cX8_reading 11 = .ok (.i2l, 1) := by decide +kernel
theorem dX8_reading_12 : decode cX8_reading 12 = .ok (.lconst 0, 1) := by decide +kernel
theorem dX8_reading_13 : decode cX8_reading 13 = .ok (.ldc2_w 158, 3) := by decide +kernel
theorem dX8_reading_16 : decode cX8_reading 16 = .ok (.invokestatic 80, 3) := by decide +kernel
theorem dX8_reading_19 : decode cX8_reading 19 = .ok (.ifCond .eq 15, 3) := by decide +kernel
theorem dX8_reading_22 : decode cX8_reading 22 = .ok (.iload_n 3, 1) := by decide +kernel
theorem dX8_reading_23 : decode cX8_reading 23 = .ok (.i2l, 1) := by decide +kernel
theorem dX8_reading_24 : decode cX8_reading 24 = .ok (.lconst 0, 1) := by decide +kernel
theorem dX8_reading_25 : decode cX8_reading 25 = .ok (.ldc2_w 226, 3) := by decide +kernel
theorem dX8_reading_28 : decode cX8_reading 28 = .ok (.invokestatic 80, 3) := by decide +kernel
theorem dX8_reading_31 : decode cX8_reading 31 = .ok (.ifCond .ne 6, 3) := by decide +kernel
theorem dX8_reading_34 : decode cX8_reading 34 = .ok (.bipush (-2), 2) := by decide +kernel
theorem dX8_reading_36 : decode cX8_reading 36 = .ok (.ireturn, 1) := by decide +kernel
theorem dX8_reading_37 : decode cX8_reading 37 = .ok (.aload_n 0, 1) := by decide +kernel
theorem dX8_reading_38 : decode cX8_reading 38 = .ok (.getfield 133, 3) := by decide +kernel
theorem dX8_reading_41 : decode cX8_reading 41 = .ok (.bipush 8, 2) := by decide +kernel
theorem dX8_reading_43 : decode cX8_reading 43 = .ok (.if_icmp .ne 6, 3) := by decide +kernel
theorem dX8_reading_46 : decode cX8_reading 46 = .ok (.bipush (-4), 2) := by decide +kernel
theorem dX8_reading_48 : decode cX8_reading 48 = .ok (.ireturn, 1) := by decide +kernel
theorem dX8_reading_49 : decode cX8_reading 49 = .ok (.aload_n 0, 1) := by decide +kernel
theorem dX8_reading_50 : decode cX8_reading 50 = .ok (.getfield 46, 3) := by decide +kernel
theorem dX8_reading_53 : decode cX8_reading 53 = .ok (.aload_n 0, 1) := by decide +kernel
theorem dX8_reading_54 : decode cX8_reading 54 = .ok (.getfield 133, 3) := by decide +kernel
theorem dX8_reading_57 : decode cX8_reading 57 = .ok (.iload_n 1, 1) := by decide +kernel
theorem dX8_reading_58 : decode cX8_reading 58 = .ok (.iastore, 1) := by decide +kernel
theorem dX8_reading_59 : decode cX8_reading 59 = .ok (.aload_n 0, 1) := by decide +kernel
theorem dX8_reading_60 : decode cX8_reading 60 = .ok (.getfield 49, 3) := by decide +kernel
theorem dX8_reading_63 : decode cX8_reading 63 = .ok (.aload_n 0, 1) := by decide +kernel
theorem dX8_reading_64 : decode cX8_reading 64 = .ok (.getfield 133, 3) := by decide +kernel
theorem dX8_reading_67 : decode cX8_reading 67 = .ok (.iload_n 2, 1) := by decide +kernel
theorem dX8_reading_68 : decode cX8_reading 68 = .ok (.iastore, 1) := by decide +kernel
theorem dX8_reading_69 : decode cX8_reading 69 = .ok (.aload_n 0, 1) := by decide +kernel
theorem dX8_reading_70 : decode cX8_reading 70 = .ok (.getfield 52, 3) := by decide +kernel
theorem dX8_reading_73 : decode cX8_reading 73 = .ok (.aload_n 0, 1) := by decide +kernel
theorem dX8_reading_74 : decode cX8_reading 74 = .ok (.getfield 133, 3) := by decide +kernel
theorem dX8_reading_77 : decode cX8_reading 77 = .ok (.iload_n 3, 1) := by decide +kernel
theorem dX8_reading_78 : decode cX8_reading 78 = .ok (.iastore, 1) := by decide +kernel
theorem dX8_reading_79 : decode cX8_reading 79 = .ok (.aload_n 0, 1) := by decide +kernel
theorem dX8_reading_80 : decode cX8_reading 80 = .ok (.dup, 1) := by decide +kernel
theorem dX8_reading_81 : decode cX8_reading 81 = .ok (.getfield 133, 3) := by decide +kernel
theorem dX8_reading_84 : decode cX8_reading 84 = .ok (.iconst 1, 1) := by decide +kernel
theorem dX8_reading_85 : decode cX8_reading 85 = .ok (.iadd, 1) := by decide +kernel
theorem dX8_reading_86 : decode cX8_reading 86 = .ok (.putfield 133, 3) := by decide +kernel
theorem dX8_reading_89 : decode cX8_reading 89 = .ok (.aload_n 0, 1) := by decide +kernel
theorem dX8_reading_90 : decode cX8_reading 90 = .ok (.getfield 133, 3) := by decide +kernel
theorem dX8_reading_93 : decode cX8_reading 93 = .ok (.iconst 1, 1) := by decide +kernel
theorem dX8_reading_94 : decode cX8_reading 94 = .ok (.isub, 1) := by decide +kernel
theorem dX8_reading_95 : decode cX8_reading 95 = .ok (.ireturn, 1) := by decide +kernel
theorem dX8_back_0 : decode cX8_back 0 = .ok (.iload_n 1, 1) := by decide +kernel
theorem dX8_back_1 : decode cX8_back 1 = .ok (.i2l, 1) := by decide +kernel
theorem dX8_back_2 : decode cX8_back 2 = .ok (.lconst 0, 1) := by decide +kernel
theorem dX8_back_3 : decode cX8_back 3 = .ok (.aload_n 0, 1) := by decide +kernel
theorem dX8_back_4 : decode cX8_back 4 = .ok (.getfield 133, 3) := by decide +kernel
theorem dX8_back_7 : decode cX8_back 7 = .ok (.i2l, 1) := by decide +kernel
theorem dX8_back_8 : decode cX8_back 8 = .ok (.invokestatic 80, 3) := by decide +kernel
theorem dX8_back_11 : decode cX8_back 11 = .ok (.ifCond .ne 6, 3) := by decide +kernel
theorem dX8_back_14 : decode cX8_back 14 = .ok (.bipush (-2), 2) := by decide +kernel
theorem dX8_back_16 : decode cX8_back 16 = .ok (.ireturn, 1) := by decide +kernel
theorem dX8_back_17 : decode cX8_back 17 = .ok (.aload_n 0, 1) := by decide +kernel
theorem dX8_back_18 : decode cX8_back 18 = .ok (.dup, 1) := by decide +kernel
theorem dX8_back_19 : decode cX8_back 19 = .ok (.getfield 133, 3) := by decide +kernel
theorem dX8_back_22 : decode cX8_back 22 = .ok (.iload_n 1, 1) := by decide +kernel
theorem dX8_back_23 : decode cX8_back 23 = .ok (.isub, 1) := by decide +kernel
theorem dX8_back_24 : decode cX8_back 24 = .ok (.putfield 133, 3) := by decide +kernel
theorem dX8_back_27 : decode cX8_back 27 = .ok (.aload_n 0, 1) := by decide +kernel
theorem dX8_back_28 : decode cX8_back 28 = .ok (.getfield 133, 3) := by decide +kernel
theorem dX8_back_31 : decode cX8_back 31 = .ok (.ireturn, 1) := by decide +kernel
theorem dX8_isSo_0 : decode cX8_isSo 0 = .ok (.aload_n 0, 1) := by decide +kernel
theorem dX8_isSo_1 : decode cX8_isSo 1 = .ok (.invokevirtual 142, 3) := by decide +kernel
theorem dX8_isSo_4 : decode cX8_isSo 4 = .ok (.iconst 0, 1) := by decide +kernel
theorem dX8_isSo_5 : decode cX8_isSo 5 = .ok (.istore_n 2, 1) := by decide +kernel
theorem dX8_isSo_6 : decode cX8_isSo 6 = .ok (.iload_n 2, 1) := by decide +kernel
theorem dX8_isSo_7 : decode cX8_isSo 7 = .ok (.aload_n 0, 1) := by decide +kernel
theorem dX8_isSo_8 : decode cX8_isSo 8 = .ok (.getfield 46, 3) := by decide +kernel
theorem dX8_isSo_11 : decode cX8_isSo 11 = .ok (.iload_n 1, 1) := by decide +kernel
theorem dX8_isSo_12 : decode cX8_isSo 12 = .ok (.iaload, 1) := by decide +kernel
theorem dX8_isSo_13 : decode cX8_isSo 13 = .ok (.if_icmp .ge 13, 3) := by decide +kernel
theorem dX8_isSo_16 : decode cX8_isSo 16 = .ok (.aload_n 0, 1) := by decide +kernel
theorem dX8_isSo_17 : decode cX8_isSo 17 = .ok (.invokevirtual 155, 3) := by decide +kernel
theorem dX8_isSo_20 : decode cX8_isSo 20 = .ok (.iinc 2 1, 3) := by decide +kernel
theorem dX8_isSo_23 : decode cX8_isSo 23 = .ok (.goto (-17), 3) := by decide +kernel
theorem dX8_isSo_26 : decode cX8_isSo 26 = .ok (.aload_n 0, 1) := by decide +kernel
theorem dX8_isSo_27 : decode cX8_isSo 27 = .ok (.getfield 22, 3) := by decide +kernel
theorem dX8_isSo_30 : decode cX8_isSo 30 = .ok (.aload_n 0, 1) := by decide +kernel
theorem dX8_isSo_31 : decode cX8_isSo 31 = .ok (.getfield 49, 3) := by decide +kernel
theorem dX8_isSo_34 : decode cX8_isSo 34 = .ok (.iload_n 1, 1) := by decide +kernel
theorem dX8_isSo_35 : decode cX8_isSo 35 = .ok (.iaload, 1) := by decide +kernel
theorem dX8_isSo_36 : decode cX8_isSo 36 = .ok (.iaload, 1) := by decide +kernel
theorem dX8_isSo_37 : decode cX8_isSo 37 = .ok (.aload_n 0, 1) := by decide +kernel
theorem dX8_isSo_38 : decode cX8_isSo 38 = .ok (.getfield 52, 3) := by decide +kernel
theorem dX8_isSo_41 : decode cX8_isSo 41 = .ok (.iload_n 1, 1) := by decide +kernel
theorem dX8_isSo_42 : decode cX8_isSo 42 = .ok (.iaload, 1) := by decide +kernel
theorem dX8_isSo_43 : decode cX8_isSo 43 = .ok (.if_icmp .ne 7, 3) := by decide +kernel
theorem dX8_isSo_46 : decode cX8_isSo 46 = .ok (.iconst 1, 1) := by decide +kernel
theorem dX8_isSo_47 : decode cX8_isSo 47 = .ok (.goto 4, 3) := by decide +kernel
theorem dX8_isSo_50 : decode cX8_isSo 50 = .ok (.iconst 0, 1) := by decide +kernel
theorem dX8_isSo_51 : decode cX8_isSo 51 = .ok (.ireturn, 1) := by decide +kernel
theorem dX8_areSo_0 : decode cX8_areSo 0 = .ok (.iconst 1, 1) := by decide +kernel
theorem dX8_areSo_1 : decode cX8_areSo 1 = .ok (.istore_n 1, 1) := by decide +kernel
theorem dX8_areSo_2 : decode cX8_areSo 2 = .ok (.iconst 0, 1) := by decide +kernel
theorem dX8_areSo_3 : decode cX8_areSo 3 = .ok (.istore_n 2, 1) := by decide +kernel
theorem dX8_areSo_4 : decode cX8_areSo 4 = .ok (.iload_n 2, 1) := by decide +kernel
theorem dX8_areSo_5 : decode cX8_areSo 5 = .ok (.aload_n 0, 1) := by decide +kernel
theorem dX8_areSo_6 : decode cX8_areSo 6 = .ok (.getfield 133, 3) := by decide +kernel
theorem dX8_areSo_9 : decode cX8_areSo 9 = .ok (.if_icmp .ge 27, 3) := by decide +kernel
theorem dX8_areSo_12 : decode cX8_areSo 12 = .ok (.iload_n 1, 1) := by decide +kernel
theorem dX8_areSo_13 : decode cX8_areSo 13 = .ok (.ifCond .eq 15, 3) := by decide +kernel
theorem dX8_areSo_16 : decode cX8_areSo 16 = .ok (.aload_n 0, 1) := by decide +kernel
theorem dX8_areSo_17 : decode cX8_areSo 17 = .ok (.iload_n 2, 1) := by decide +kernel
theorem dX8_areSo_18 : decode cX8_areSo 18 = .ok (.invokevirtual 243, 3) := by decide +kernel
theorem dX8_areSo_21 : decode cX8_areSo 21 = .ok (.ifCond .eq 7, 3) := by decide +kernel
theorem dX8_areSo_24 : decode cX8_areSo 24 = .ok (.iconst 1, 1) := by decide +kernel
theorem dX8_areSo_25 : decode cX8_areSo 25 = .ok (.goto 4, 3) := by decide +kernel
end
section
theorem dX8_areSo_28 : decode cX8_areSo 28 = .ok (.iconst 0, 1) := by decide +kernel
theorem dX8_areSo_29 : decode cX8_areSo 29 = .ok (.istore_n 1, 1) := by decide +kernel
theorem dX8_areSo_30 : decode cX8_areSo 30 = .ok (.iinc 2 1, 3) := by decide +kernel
theorem dX8_areSo_33 : decode cX8_areSo 33 = .ok (.goto (-29), 3) := by decide +kernel
theorem dX8_areSo_36 : decode cX8_areSo 36 = .ok (.iload_n 1, 1) := by decide +kernel
theorem dX8_areSo_37 : decode cX8_areSo 37 = .ok (.ireturn, 1) := by decide +kernel
theorem dX8_kinds_0 : decode cX8_kinds 0 = .ok (.aload_n 0, 1) := by decide +kernel
theorem dX8_kinds_1 : decode cX8_kinds 1 = .ok (.iload_n 1, 1) := by decide +kernel
theorem dX8_kinds_2 : decode cX8_kinds 2 = .ok (.invokevirtual 149, 3) := by decide +kernel
theorem dX8_kinds_5 : decode cX8_kinds 5 = .ok (.ifCond .eq 5, 3) := by decide +kernel
theorem dX8_kinds_8 : decode cX8_kinds 8 = .ok (.iconst (-1), 1) := by decide +kernel
theorem dX8_kinds_9 : decode cX8_kinds 9 = .ok (.ireturn, 1) := by decide +kernel
theorem dX8_kinds_10 : decode cX8_kinds 10 = .ok (.aload_n 0, 1) := by decide +kernel
theorem dX8_kinds_11 : decode cX8_kinds 11 = .ok (.getfield 7, 3) := by decide +kernel
theorem dX8_kinds_14 : decode cX8_kinds 14 = .ok (.iload_n 1, 1) := by decide +kernel
theorem dX8_kinds_15 : decode cX8_kinds 15 = .ok (.iaload, 1) := by decide +kernel
theorem dX8_kinds_16 : decode cX8_kinds 16 = .ok (.istore_n 2, 1) := by decide +kernel
theorem dX8_kinds_17 : decode cX8_kinds 17 = .ok (.iconst 0, 1) := by decide +kernel
theorem dX8_kinds_18 : decode cX8_kinds 18 = .ok (.istore_n 3, 1) := by decide +kernel
theorem dX8_kinds_19 : decode cX8_kinds 19 = .ok (.iconst 0, 1) := by decide +kernel
theorem dX8_kinds_20 : decode cX8_kinds 20 = .ok (.istore 4, 2) := by decide +kernel
theorem dX8_kinds_22 : decode cX8_kinds 22 = .ok (.iload 4, 2) := by decide +kernel
theorem dX8_kinds_24 : decode cX8_kinds 24 = .ok (.iconst 3, 1) := by decide +kernel
theorem dX8_kinds_25 : decode cX8_kinds 25 = .ok (.if_icmp .ge 35, 3) := by decide +kernel
theorem dX8_kinds_28 : decode cX8_kinds 28 = .ok (.aload_n 0, 1) := by decide +kernel
theorem dX8_kinds_29 : decode cX8_kinds 29 = .ok (.getfield 7, 3) := by decide +kernel
theorem dX8_kinds_32 : decode cX8_kinds 32 = .ok (.iload_n 1, 1) := by decide +kernel
theorem dX8_kinds_33 : decode cX8_kinds 33 = .ok (.iload 4, 2) := by decide +kernel
theorem dX8_kinds_35 : decode cX8_kinds 35 = .ok (.iastore, 1) := by decide +kernel
theorem dX8_kinds_36 : decode cX8_kinds 36 = .ok (.iload_n 3, 1) := by decide +kernel
theorem dX8_kinds_37 : decode cX8_kinds 37 = .ok (.aload_n 0, 1) := by decide +kernel
theorem dX8_kinds_38 : decode cX8_kinds 38 = .ok (.invokevirtual 246, 3) := by decide +kernel
theorem dX8_kinds_41 : decode cX8_kinds 41 = .ok (.ifCond .eq 10, 3) := by decide +kernel
theorem dX8_kinds_44 : decode cX8_kinds 44 = .ok (.iconst 1, 1) := by decide +kernel
theorem dX8_kinds_45 : decode cX8_kinds 45 = .ok (.iload 4, 2) := by decide +kernel
theorem dX8_kinds_47 : decode cX8_kinds 47 = .ok (.ishl, 1) := by decide +kernel
theorem dX8_kinds_48 : decode cX8_kinds 48 = .ok (.goto 4, 3) := by decide +kernel
theorem dX8_kinds_51 : decode cX8_kinds 51 = .ok (.iconst 0, 1) := by decide +kernel
theorem dX8_kinds_52 : decode cX8_kinds 52 = .ok (.ior, 1) := by decide +kernel
theorem dX8_kinds_53 : decode cX8_kinds 53 = .ok (.istore_n 3, 1) := by decide +kernel
theorem dX8_kinds_54 : decode cX8_kinds 54 = .ok (.iinc 4 1, 3) := by decide +kernel
theorem dX8_kinds_57 : decode cX8_kinds 57 = .ok (.goto (-35), 3) := by decide +kernel
theorem dX8_kinds_60 : decode cX8_kinds 60 = .ok (.aload_n 0, 1) := by decide +kernel
theorem dX8_kinds_61 : decode cX8_kinds 61 = .ok (.getfield 7, 3) := by decide +kernel
theorem dX8_kinds_64 : decode cX8_kinds 64 = .ok (.iload_n 1, 1) := by decide +kernel
theorem dX8_kinds_65 : decode cX8_kinds 65 = .ok (.iload_n 2, 1) := by decide +kernel
theorem dX8_kinds_66 : decode cX8_kinds 66 = .ok (.iastore, 1) := by decide +kernel
theorem dX8_kinds_67 : decode cX8_kinds 67 = .ok (.iload_n 3, 1) := by decide +kernel
theorem dX8_kinds_68 : decode cX8_kinds 68 = .ok (.ireturn, 1) := by decide +kernel
theorem dX8_firsts_0 : decode cX8_firsts 0 = .ok (.aload_n 0, 1) := by decide +kernel
theorem dX8_firsts_1 : decode cX8_firsts 1 = .ok (.iload_n 1, 1) := by decide +kernel
theorem dX8_firsts_2 : decode cX8_firsts 2 = .ok (.invokevirtual 149, 3) := by decide +kernel
theorem dX8_firsts_5 : decode cX8_firsts 5 = .ok (.ifCond .eq 5, 3) := by decide +kernel
theorem dX8_firsts_8 : decode cX8_firsts 8 = .ok (.iconst (-1), 1) := by decide +kernel
theorem dX8_firsts_9 : decode cX8_firsts 9 = .ok (.ireturn, 1) := by decide +kernel
theorem dX8_firsts_10 : decode cX8_firsts 10 = .ok (.aload_n 0, 1) := by decide +kernel
theorem dX8_firsts_11 : decode cX8_firsts 11 = .ok (.getfield 13, 3) := by decide +kernel
theorem dX8_firsts_14 : decode cX8_firsts 14 = .ok (.iload_n 1, 1) := by decide +kernel
theorem dX8_firsts_15 : decode cX8_firsts 15 = .ok (.iaload, 1) := by decide +kernel
theorem dX8_firsts_16 : decode cX8_firsts 16 = .ok (.istore_n 2, 1) := by decide +kernel
theorem dX8_firsts_17 : decode cX8_firsts 17 = .ok (.iconst 0, 1) := by decide +kernel
theorem dX8_firsts_18 : decode cX8_firsts 18 = .ok (.istore_n 3, 1) := by decide +kernel
theorem dX8_firsts_19 : decode cX8_firsts 19 = .ok (.iconst 0, 1) := by decide +kernel
theorem dX8_firsts_20 : decode cX8_firsts 20 = .ok (.istore 4, 2) := by decide +kernel
theorem dX8_firsts_22 : decode cX8_firsts 22 = .ok (.iload 4, 2) := by decide +kernel
theorem dX8_firsts_24 : decode cX8_firsts 24 = .ok (.aload_n 0, 1) := by decide +kernel
theorem dX8_firsts_25 : decode cX8_firsts 25 = .ok (.getfield 127, 3) := by decide +kernel
theorem dX8_firsts_28 : decode cX8_firsts 28 = .ok (.if_icmp .ge 35, 3) := by decide +kernel
theorem dX8_firsts_31 : decode cX8_firsts 31 = .ok (.aload_n 0, 1) := by decide +kernel
theorem dX8_firsts_32 : decode cX8_firsts 32 = .ok (.getfield 13, 3) := by decide +kernel
theorem dX8_firsts_35 : decode cX8_firsts 35 = .ok (.iload_n 1, 1) := by decide +kernel
theorem dX8_firsts_36 : decode cX8_firsts 36 = .ok (.iload 4, 2) := by decide +kernel
theorem dX8_firsts_38 : decode cX8_firsts 38 = .ok (.iastore, 1) := by decide +kernel
theorem dX8_firsts_39 : decode cX8_firsts 39 = .ok (.iload_n 3, 1) := by decide +kernel
theorem dX8_firsts_40 : decode cX8_firsts 40 = .ok (.aload_n 0, 1) := by decide +kernel
theorem dX8_firsts_41 : decode cX8_firsts 41 = .ok (.invokevirtual 246, 3) := by decide +kernel
theorem dX8_firsts_44 : decode cX8_firsts 44 = .ok (.ifCond .eq 10, 3) := by decide +kernel
theorem dX8_firsts_47 : decode cX8_firsts 47 = .ok (.iconst 1, 1) := by decide +kernel
theorem dX8_firsts_48 : decode cX8_firsts 48 = .ok (.iload 4, 2) := by decide +kernel
theorem dX8_firsts_50 : decode cX8_firsts 50 = .ok (.ishl, 1) := by decide +kernel
theorem dX8_firsts_51 : decode cX8_firsts 51 = .ok (.goto 4, 3) := by decide +kernel
theorem dX8_firsts_54 : decode cX8_firsts 54 = .ok (.iconst 0, 1) := by decide +kernel
theorem dX8_firsts_55 : decode cX8_firsts 55 = .ok (.ior, 1) := by decide +kernel
theorem dX8_firsts_56 : decode cX8_firsts 56 = .ok (.istore_n 3, 1) := by decide +kernel
theorem dX8_firsts_57 : decode cX8_firsts 57 = .ok (.iinc 4 1, 3) := by decide +kernel
theorem dX8_firsts_60 : decode cX8_firsts 60 = .ok (.goto (-38), 3) := by decide +kernel
theorem dX8_firsts_63 : decode cX8_firsts 63 = .ok (.aload_n 0, 1) := by decide +kernel
theorem dX8_firsts_64 : decode cX8_firsts 64 = .ok (.getfield 13, 3) := by decide +kernel
theorem dX8_firsts_67 : decode cX8_firsts 67 = .ok (.iload_n 1, 1) := by decide +kernel
theorem dX8_firsts_68 : decode cX8_firsts 68 = .ok (.iload_n 2, 1) := by decide +kernel
theorem dX8_firsts_69 : decode cX8_firsts 69 = .ok (.iastore, 1) := by decide +kernel
theorem dX8_firsts_70 : decode cX8_firsts 70 = .ok (.iload_n 3, 1) := by decide +kernel
theorem dX8_firsts_71 : decode cX8_firsts 71 = .ok (.ireturn, 1) := by decide +kernel
theorem dX8_odds_0 : decode cX8_odds 0 = .ok (.aload_n 0, 1) := by decide +kernel
theorem dX8_odds_1 : decode cX8_odds 1 = .ok (.iload_n 1, 1) := by decide +kernel
theorem dX8_odds_2 : decode cX8_odds 2 = .ok (.invokevirtual 149, 3) := by decide +kernel
theorem dX8_odds_5 : decode cX8_odds 5 = .ok (.ifCond .ne 38, 3) := by decide +kernel
theorem dX8_odds_8 : decode cX8_odds 8 = .ok (.iload_n 2, 1) := by decide +kernel
theorem dX8_odds_9 : decode cX8_odds 9 = .ok (.i2l, 1) := by decide +kernel
theorem dX8_odds_10 : decode cX8_odds 10 = .ok (.lconst 0, 1) := by decide +kernel
theorem dX8_odds_11 : decode cX8_odds 11 = .ok (.ldc2_w 158, 3) := by decide +kernel
theorem dX8_odds_14 : decode cX8_odds 14 = .ok (.invokestatic 80, 3) := by decide +kernel
theorem dX8_odds_17 : decode cX8_odds 17 = .ok (.ifCond .eq 26, 3) := by decide +kernel
theorem dX8_odds_20 : decode cX8_odds 20 = .ok (.iload_n 3, 1) := by decide +kernel
theorem dX8_odds_21 : decode cX8_odds 21 = .ok (.i2l, 1) := by decide +kernel
theorem dX8_odds_22 : decode cX8_odds 22 = .ok (.lconst 0, 1) := by decide +kernel
theorem dX8_odds_23 : decode cX8_odds 23 = .ok (.ldc2_w 226, 3) := by decide +kernel
theorem dX8_odds_26 : decode cX8_odds 26 = .ok (.invokestatic 80, 3) := by decide +kernel
theorem dX8_odds_29 : decode cX8_odds 29 = .ok (.ifCond .eq 14, 3) := by decide +kernel
theorem dX8_odds_32 : decode cX8_odds 32 = .ok (.iload 4, 2) := by decide +kernel
theorem dX8_odds_34 : decode cX8_odds 34 = .ok (.i2l, 1) := by decide +kernel
theorem dX8_odds_35 : decode cX8_odds 35 = .ok (.lconst 0, 1) := by decide +kernel
theorem dX8_odds_36 : decode cX8_odds 36 = .ok (.lconst 1, 1) := by decide +kernel
theorem dX8_odds_37 : decode cX8_odds 37 = .ok (.invokestatic 80, 3) := by decide +kernel
theorem dX8_odds_40 : decode cX8_odds 40 = .ok (.ifCond .ne 7, 3) := by decide +kernel
theorem dX8_odds_43 : decode cX8_odds 43 = .ok (.invokestatic 73, 3) := by decide +kernel
theorem dX8_odds_46 : decode cX8_odds 46 = .ok (.lreturn, 1) := by decide +kernel
theorem dX8_odds_47 : decode cX8_odds 47 = .ok (.aload_n 0, 1) := by decide +kernel
theorem dX8_odds_48 : decode cX8_odds 48 = .ok (.invokevirtual 194, 3) := by decide +kernel
theorem dX8_odds_51 : decode cX8_odds 51 = .ok (.lconst 0, 1) := by decide +kernel
theorem dX8_odds_52 : decode cX8_odds 52 = .ok (.lstore 5, 2) := by decide +kernel
theorem dX8_odds_54 : decode cX8_odds 54 = .ok (.iconst 0, 1) := by decide +kernel
theorem dX8_odds_55 : decode cX8_odds 55 = .ok (.istore 7, 2) := by decide +kernel
theorem dX8_odds_57 : decode cX8_odds 57 = .ok (.iload 7, 2) := by decide +kernel
theorem dX8_odds_59 : decode cX8_odds 59 = .ok (.aload_n 0, 1) := by decide +kernel
theorem dX8_odds_60 : decode cX8_odds 60 = .ok (.invokevirtual 170, 3) := by decide +kernel
theorem dX8_odds_63 : decode cX8_odds 63 = .ok (.if_icmp .ge 41, 3) := by decide +kernel
theorem dX8_odds_66 : decode cX8_odds 66 = .ok (.aload_n 0, 1) := by decide +kernel
theorem dX8_odds_67 : decode cX8_odds 67 = .ok (.aload_n 0, 1) := by decide +kernel
theorem dX8_odds_68 : decode cX8_odds 68 = .ok (.iload 7, 2) := by decide +kernel
theorem dX8_odds_70 : decode cX8_odds 70 = .ok (.iload_n 2, 1) := by decide +kernel
theorem dX8_odds_71 : decode cX8_odds 71 = .ok (.i2l, 1) := by decide +kernel
theorem dX8_odds_72 : decode cX8_odds 72 = .ok (.invokevirtual 182, 3) := by decide +kernel
theorem dX8_odds_75 : decode cX8_odds 75 = .ok (.invokevirtual 173, 3) := by decide +kernel
theorem dX8_odds_78 : decode cX8_odds 78 = .ok (.lload 5, 2) := by decide +kernel
theorem dX8_odds_80 : decode cX8_odds 80 = .ok (.aload_n 0, 1) := by decide +kernel
theorem dX8_odds_81 : decode cX8_odds 81 = .ok (.getfield 22, 3) := by decide +kernel
theorem dX8_odds_84 : decode cX8_odds 84 = .ok (.iload_n 1, 1) := by decide +kernel
theorem dX8_odds_85 : decode cX8_odds 85 = .ok (.iaload, 1) := by decide +kernel
theorem dX8_odds_86 : decode cX8_odds 86 = .ok (.iload_n 3, 1) := by decide +kernel
theorem dX8_odds_87 : decode cX8_odds 87 = .ok (.if_icmp .ne 7, 3) := by decide +kernel
theorem dX8_odds_90 : decode cX8_odds 90 = .ok (.lconst 1, 1) := by decide +kernel
theorem dX8_odds_91 : decode cX8_odds 91 = .ok (.goto 4, 3) := by decide +kernel
theorem dX8_odds_94 : decode cX8_odds 94 = .ok (.lconst 0, 1) := by decide +kernel
theorem dX8_odds_95 : decode cX8_odds 95 = .ok (.ladd, 1) := by decide +kernel
theorem dX8_odds_96 : decode cX8_odds 96 = .ok (.lstore 5, 2) := by decide +kernel
theorem dX8_odds_98 : decode cX8_odds 98 = .ok (.iinc 7 1, 3) := by decide +kernel
theorem dX8_odds_101 : decode cX8_odds 101 = .ok (.goto (-44), 3) := by decide +kernel
theorem dX8_odds_104 : decode cX8_odds 104 = .ok (.lload 5, 2) := by decide +kernel
theorem dX8_odds_106 : decode cX8_odds 106 = .ok (.aload_n 0, 1) := by decide +kernel
theorem dX8_odds_107 : decode cX8_odds 107 = .ok (.invokevirtual 170, 3) := by decide +kernel
theorem dX8_odds_110 : decode cX8_odds 110 = .ok (.i2l, 1) := by decide +kernel
theorem dX8_odds_111 : decode cX8_odds 111 = .ok (.iload 4, 2) := by decide +kernel
theorem dX8_odds_113 : decode cX8_odds 113 = .ok (.invokestatic 250, 3) := by decide +kernel
theorem dX8_odds_116 : decode cX8_odds 116 = .ok (.lreturn, 1) := by decide +kernel
theorem dX8_noSheet_0 : decode cX8_noSheet 0 = .ok (.iload_n 0, 1) := by decide +kernel
theorem dX8_noSheet_1 : decode cX8_noSheet 1 = .ok (.i2l, 1) := by decide +kernel
theorem dX8_noSheet_2 : decode cX8_noSheet 2 = .ok (.lconst 0, 1) := by decide +kernel
theorem dX8_noSheet_3 : decode cX8_noSheet 3 = .ok (.ldc2_w 254, 3) := by decide +kernel
theorem dX8_noSheet_6 : decode cX8_noSheet 6 = .ok (.invokestatic 80, 3) := by decide +kernel
theorem dX8_noSheet_9 : decode cX8_noSheet 9 = .ok (.ifCond .ne 7, 3) := by decide +kernel
theorem dX8_noSheet_12 : decode cX8_noSheet 12 = .ok (.iconst 1, 1) := by decide +kernel
theorem dX8_noSheet_13 : decode cX8_noSheet 13 = .ok (.goto 4, 3) := by decide +kernel
theorem dX8_noSheet_16 : decode cX8_noSheet 16 = .ok (.iconst 0, 1) := by decide +kernel
theorem dX8_noSheet_17 : decode cX8_noSheet 17 = .ok (.ireturn, 1) := by decide +kernel
theorem dX8_sheet_0 : decode cX8_sheet 0 = .ok (.iload_n 1, 1) := by decide +kernel
theorem dX8_sheet_1 : decode cX8_sheet 1 = .ok (.invokestatic 113, 3) := by decide +kernel
theorem dX8_sheet_4 : decode cX8_sheet 4 = .ok (.ifCond .eq 9, 3) := by decide +kernel
theorem dX8_sheet_7 : decode cX8_sheet 7 = .ok (.aload_n 0, 1) := by decide +kernel
theorem dX8_sheet_8 : decode cX8_sheet 8 = .ok (.iconst (-1), 1) := by decide +kernel
theorem dX8_sheet_9 : decode cX8_sheet 9 = .ok (.invokevirtual 117, 3) := by decide +kernel
theorem dX8_sheet_12 : decode cX8_sheet 12 = .ok (.ireturn, 1) := by decide +kernel
theorem dX8_sheet_13 : decode cX8_sheet 13 = .ok (.iload_n 2, 1) := by decide +kernel
theorem dX8_sheet_14 : decode cX8_sheet 14 = .ok (.i2l, 1) := by decide +kernel
theorem dX8_sheet_15 : decode cX8_sheet 15 = .ok (.lconst 0, 1) := by decide +kernel
theorem dX8_sheet_16 : decode cX8_sheet 16 = .ok (.ldc2_w 97, 3) := by decide +kernel
theorem dX8_sheet_19 : decode cX8_sheet 19 = .ok (.invokestatic 80, 3) := by decide +kernel
theorem dX8_sheet_22 : decode cX8_sheet 22 = .ok (.ifCond .eq 9, 3) := by decide +kernel
theorem dX8_sheet_25 : decode cX8_sheet 25 = .ok (.iload_n 3, 1) := by decide +kernel
theorem dX8_sheet_26 : decode cX8_sheet 26 = .ok (.bipush 60, 2) := by decide +kernel
theorem dX8_sheet_28 : decode cX8_sheet 28 = .ok (.if_icmp .le 10, 3) := by decide +kernel
theorem dX8_sheet_31 : decode cX8_sheet 31 = .ok (.aload_n 0, 1) := by decide +kernel
theorem dX8_sheet_32 : decode cX8_sheet 32 = .ok (.bipush (-2), 2) := by decide +kernel
theorem dX8_sheet_34 : decode cX8_sheet 34 = .ok (.invokevirtual 117, 3) := by decide +kernel
theorem dX8_sheet_37 : decode cX8_sheet 37 = .ok (.ireturn, 1) := by decide +kernel
theorem dX8_sheet_38 : decode cX8_sheet 38 = .ok (.iload_n 3, 1) := by decide +kernel
theorem dX8_sheet_39 : decode cX8_sheet 39 = .ok (.ifCond .ge 9, 3) := by decide +kernel
theorem dX8_sheet_42 : decode cX8_sheet 42 = .ok (.aload_n 0, 1) := by decide +kernel
theorem dX8_sheet_43 : decode cX8_sheet 43 = .ok (.iconst 4, 1) := by decide +kernel
theorem dX8_sheet_44 : decode cX8_sheet 44 = .ok (.invokevirtual 105, 3) := by decide +kernel
theorem dX8_sheet_47 : decode cX8_sheet 47 = .ok (.ireturn, 1) := by decide +kernel
theorem dX8_sheet_48 : decode cX8_sheet 48 = .ok (.aload_n 0, 1) := by decide +kernel
theorem dX8_sheet_49 : decode cX8_sheet 49 = .ok (.getfield 55, 3) := by decide +kernel
theorem dX8_sheet_52 : decode cX8_sheet 52 = .ok (.iload_n 1, 1) := by decide +kernel
theorem dX8_sheet_53 : decode cX8_sheet 53 = .ok (.iload_n 3, 1) := by decide +kernel
theorem dX8_sheet_54 : decode cX8_sheet 54 = .ok (.iastore, 1) := by decide +kernel
theorem dX8_sheet_55 : decode cX8_sheet 55 = .ok (.aload_n 0, 1) := by decide +kernel
theorem dX8_sheet_56 : decode cX8_sheet 56 = .ok (.getfield 58, 3) := by decide +kernel
theorem dX8_sheet_59 : decode cX8_sheet 59 = .ok (.iload_n 1, 1) := by decide +kernel
theorem dX8_sheet_60 : decode cX8_sheet 60 = .ok (.iload_n 2, 1) := by decide +kernel
theorem dX8_sheet_61 : decode cX8_sheet 61 = .ok (.iastore, 1) := by decide +kernel
theorem dX8_sheet_62 : decode cX8_sheet 62 = .ok (.iconst 0, 1) := by decide +kernel
theorem dX8_sheet_63 : decode cX8_sheet 63 = .ok (.istore 4, 2) := by decide +kernel
theorem dX8_sheet_65 : decode cX8_sheet 65 = .ok (.iload 4, 2) := by decide +kernel
theorem dX8_sheet_67 : decode cX8_sheet 67 = .ok (.iload_n 3, 1) := by decide +kernel
theorem dX8_sheet_68 : decode cX8_sheet 68 = .ok (.if_icmp .ge 22, 3) := by decide +kernel
theorem dX8_sheet_71 : decode cX8_sheet 71 = .ok (.aload_n 0, 1) := by decide +kernel
theorem dX8_sheet_72 : decode cX8_sheet 72 = .ok (.getfield 61, 3) := by decide +kernel
theorem dX8_sheet_75 : decode cX8_sheet 75 = .ok (.bipush 60, 2) := by decide +kernel
theorem dX8_sheet_77 : decode cX8_sheet 77 = .ok (.iload_n 1, 1) := by decide +kernel
theorem dX8_sheet_78 : decode cX8_sheet 78 = .ok (.imul, 1) := by decide +kernel
theorem dX8_sheet_79 : decode cX8_sheet 79 = .ok (.iload 4, 2) := by decide +kernel
theorem dX8_sheet_81 : decode cX8_sheet 81 = .ok (.iadd, 1) := by decide +kernel
theorem dX8_sheet_82 : decode cX8_sheet 82 = .ok (.iconst 0, 1) := by decide +kernel
theorem dX8_sheet_83 : decode cX8_sheet 83 = .ok (.iastore, 1) := by decide +kernel
theorem dX8_sheet_84 : decode cX8_sheet 84 = .ok (.iinc 4 1, 3) := by decide +kernel
theorem dX8_sheet_87 : decode cX8_sheet 87 = .ok (.goto (-22), 3) := by decide +kernel
theorem dX8_sheet_90 : decode cX8_sheet 90 = .ok (.aload_n 0, 1) := by decide +kernel
theorem dX8_sheet_91 : decode cX8_sheet 91 = .ok (.iconst 1, 1) := by decide +kernel
theorem dX8_sheet_92 : decode cX8_sheet 92 = .ok (.invokevirtual 117, 3) := by decide +kernel
theorem dX8_sheet_95 : decode cX8_sheet 95 = .ok (.ireturn, 1) := by decide +kernel
theorem dX8_lose_0 : decode cX8_lose 0 = .ok (.iload_n 1, 1) := by decide +kernel
theorem dX8_lose_1 : decode cX8_lose 1 = .ok (.invokestatic 113, 3) := by decide +kernel
theorem dX8_lose_4 : decode cX8_lose 4 = .ok (.ifCond .eq 5, 3) := by decide +kernel
theorem dX8_lose_7 : decode cX8_lose 7 = .ok (.iconst (-1), 1) := by decide +kernel
theorem dX8_lose_8 : decode cX8_lose 8 = .ok (.ireturn, 1) := by decide +kernel
theorem dX8_lose_9 : decode cX8_lose 9 = .ok (.aload_n 0, 1) := by decide +kernel
theorem dX8_lose_10 : decode cX8_lose 10 = .ok (.getfield 55, 3) := by decide +kernel
theorem dX8_lose_13 : decode cX8_lose 13 = .ok (.iload_n 1, 1) := by decide +kernel
theorem dX8_lose_14 : decode cX8_lose 14 = .ok (.iaload, 1) := by decide +kernel
theorem dX8_lose_15 : decode cX8_lose 15 = .ok (.ifCond .ge 7, 3) := by decide +kernel
theorem dX8_lose_18 : decode cX8_lose 18 = .ok (.iconst 0, 1) := by decide +kernel
theorem dX8_lose_19 : decode cX8_lose 19 = .ok (.goto 4, 3) := by decide +kernel
theorem dX8_lose_22 : decode cX8_lose 22 = .ok (.iconst 1, 1) := by decide +kernel
theorem dX8_lose_23 : decode cX8_lose 23 = .ok (.istore_n 2, 1) := by decide +kernel
theorem dX8_lose_24 : decode cX8_lose 24 = .ok (.aload_n 0, 1) := by decide +kernel
theorem dX8_lose_25 : decode cX8_lose 25 = .ok (.getfield 55, 3) := by decide +kernel
theorem dX8_lose_28 : decode cX8_lose 28 = .ok (.iload_n 1, 1) := by decide +kernel
theorem dX8_lose_29 : decode cX8_lose 29 = .ok (.iconst (-1), 1) := by decide +kernel
theorem dX8_lose_30 : decode cX8_lose 30 = .ok (.iastore, 1) := by decide +kernel
theorem dX8_lose_31 : decode cX8_lose 31 = .ok (.iload_n 2, 1) := by decide +kernel
theorem dX8_lose_32 : decode cX8_lose 32 = .ok (.ireturn, 1) := by decide +kernel
theorem dX8_noCell_0 : decode cX8_noCell 0 = .ok (.aload_n 0, 1) := by decide +kernel
theorem dX8_noCell_1 : decode cX8_noCell 1 = .ok (.getfield 55, 3) := by decide +kernel
theorem dX8_noCell_4 : decode cX8_noCell 4 = .ok (.iload_n 1, 1) := by decide +kernel
theorem dX8_noCell_5 : decode cX8_noCell 5 = .ok (.iaload, 1) := by decide +kernel
theorem dX8_noCell_6 : decode cX8_noCell 6 = .ok (.ifCond .ge 7, 3) := by decide +kernel
theorem dX8_noCell_9 : decode cX8_noCell 9 = .ok (.iconst 1, 1) := by decide +kernel
theorem dX8_noCell_10 : decode cX8_noCell 10 = .ok (.goto 26, 3) := by decide +kernel
theorem dX8_noCell_13 : decode cX8_noCell 13 = .ok (.iload_n 2, 1) := by decide +kernel
theorem dX8_noCell_14 : decode cX8_noCell 14 = .ok (.i2l, 1) := by decide +kernel
theorem dX8_noCell_15 : decode cX8_noCell 15 = .ok (.lconst 0, 1) := by decide +kernel
theorem dX8_noCell_16 : decode cX8_noCell 16 = .ok (.aload_n 0, 1) := by decide +kernel
theorem dX8_noCell_17 : decode cX8_noCell 17 = .ok (.getfield 55, 3) := by decide +kernel
theorem dX8_noCell_20 : decode cX8_noCell 20 = .ok (.iload_n 1, 1) := by decide +kernel
theorem dX8_noCell_21 : decode cX8_noCell 21 = .ok (.iaload, 1) := by decide +kernel
theorem dX8_noCell_22 : decode cX8_noCell 22 = .ok (.i2l, 1) := by decide +kernel
theorem dX8_noCell_23 : decode cX8_noCell 23 = .ok (.lconst 1, 1) := by decide +kernel
theorem dX8_noCell_24 : decode cX8_noCell 24 = .ok (.lsub, 1) := by decide +kernel
theorem dX8_noCell_25 : decode cX8_noCell 25 = .ok (.invokestatic 80, 3) := by decide +kernel
theorem dX8_noCell_28 : decode cX8_noCell 28 = .ok (.ifCond .eq 7, 3) := by decide +kernel
theorem dX8_noCell_31 : decode cX8_noCell 31 = .ok (.iconst 0, 1) := by decide +kernel
theorem dX8_noCell_32 : decode cX8_noCell 32 = .ok (.goto 4, 3) := by decide +kernel
theorem dX8_noCell_35 : decode cX8_noCell 35 = .ok (.iconst 3, 1) := by decide +kernel
theorem dX8_noCell_36 : decode cX8_noCell 36 = .ok (.ireturn, 1) := by decide +kernel
theorem dX8_put_0 : decode cX8_put 0 = .ok (.iload_n 1, 1) := by decide +kernel
theorem dX8_put_1 : decode cX8_put 1 = .ok (.invokestatic 113, 3) := by decide +kernel
theorem dX8_put_4 : decode cX8_put 4 = .ok (.ifCond .eq 9, 3) := by decide +kernel
theorem dX8_put_7 : decode cX8_put 7 = .ok (.aload_n 0, 1) := by decide +kernel
theorem dX8_put_8 : decode cX8_put 8 = .ok (.iconst (-1), 1) := by decide +kernel
theorem dX8_put_9 : decode cX8_put 9 = .ok (.invokevirtual 117, 3) := by decide +kernel
theorem dX8_put_12 : decode cX8_put 12 = .ok (.ireturn, 1) := by decide +kernel
theorem dX8_put_13 : decode cX8_put 13 = .ok (.aload_n 0, 1) := by decide +kernel
theorem dX8_put_14 : decode cX8_put 14 = .ok (.iload_n 1, 1) := by decide +kernel
theorem dX8_put_15 : decode cX8_put 15 = .ok (.iload_n 2, 1) := by decide +kernel
theorem dX8_put_16 : decode cX8_put 16 = .ok (.invokevirtual 256, 3) := by decide +kernel
theorem dX8_put_19 : decode cX8_put 19 = .ok (.ifCond .le 14, 3) := by decide +kernel
theorem dX8_put_22 : decode cX8_put 22 = .ok (.aload_n 0, 1) := by decide +kernel
theorem dX8_put_23 : decode cX8_put 23 = .ok (.aload_n 0, 1) := by decide +kernel
theorem dX8_put_24 : decode cX8_put 24 = .ok (.iload_n 1, 1) := by decide +kernel
theorem dX8_put_25 : decode cX8_put 25 = .ok (.iload_n 2, 1) := by decide +kernel
theorem dX8_put_26 : decode cX8_put 26 = .ok (.invokevirtual 256, 3) := by decide +kernel
theorem dX8_put_29 : decode cX8_put 29 = .ok (.invokevirtual 105, 3) := by decide +kernel
theorem dX8_put_32 : decode cX8_put 32 = .ok (.ireturn, 1) := by decide +kernel
theorem dX8_put_33 : decode cX8_put 33 = .ok (.aload_n 0, 1) := by decide +kernel
theorem dX8_put_34 : decode cX8_put 34 = .ok (.getfield 61, 3) := by decide +kernel
theorem dX8_put_37 : decode cX8_put 37 = .ok (.bipush 60, 2) := by decide +kernel
theorem dX8_put_39 : decode cX8_put 39 = .ok (.iload_n 1, 1) := by decide +kernel
theorem dX8_put_40 : decode cX8_put 40 = .ok (.imul, 1) := by decide +kernel
theorem dX8_put_41 : decode cX8_put 41 = .ok (.iload_n 2, 1) := by decide +kernel
theorem dX8_put_42 : decode cX8_put 42 = .ok (.iadd, 1) := by decide +kernel
theorem dX8_put_43 : decode cX8_put 43 = .ok (.aload_n 0, 1) := by decide +kernel
theorem dX8_put_44 : decode cX8_put 44 = .ok (.getfield 58, 3) := by decide +kernel
theorem dX8_put_47 : decode cX8_put 47 = .ok (.iload_n 1, 1) := by decide +kernel
theorem dX8_put_48 : decode cX8_put 48 = .ok (.iaload, 1) := by decide +kernel
theorem dX8_put_49 : decode cX8_put 49 = .ok (.ifCond .ne 8, 3) := by decide +kernel
theorem dX8_put_52 : decode cX8_put 52 = .ok (.iload_n 3, 1) := by decide +kernel
theorem dX8_put_53 : decode cX8_put 53 = .ok (.i2b, 1) := by decide +kernel
theorem dX8_put_54 : decode cX8_put 54 = .ok (.goto 19, 3) := by decide +kernel
theorem dX8_put_57 : decode cX8_put 57 = .ok (.aload_n 0, 1) := by decide +kernel
theorem dX8_put_58 : decode cX8_put 58 = .ok (.getfield 58, 3) := by decide +kernel
theorem dX8_put_61 : decode cX8_put 61 = .ok (.iload_n 1, 1) := by decide +kernel
theorem dX8_put_62 : decode cX8_put 62 = .ok (.iaload, 1) := by decide +kernel
theorem dX8_put_63 : decode cX8_put 63 = .ok (.iconst 1, 1) := by decide +kernel
theorem dX8_put_64 : decode cX8_put 64 = .ok (.if_icmp .ne 8, 3) := by decide +kernel
theorem dX8_put_67 : decode cX8_put 67 = .ok (.iload_n 3, 1) := by decide +kernel
theorem dX8_put_68 : decode cX8_put 68 = .ok (.i2s, 1) := by decide +kernel
theorem dX8_put_69 : decode cX8_put 69 = .ok (.goto 4, 3) := by decide +kernel
theorem dX8_put_72 : decode cX8_put 72 = .ok (.iload_n 3, 1) := by decide +kernel
theorem dX8_put_73 : decode cX8_put 73 = .ok (.iastore, 1) := by decide +kernel
theorem dX8_put_74 : decode cX8_put 74 = .ok (.aload_n 0, 1) := by decide +kernel
theorem dX8_put_75 : decode cX8_put 75 = .ok (.iconst 1, 1) := by decide +kernel
theorem dX8_put_76 : decode cX8_put 76 = .ok (.invokevirtual 117, 3) := by decide +kernel
theorem dX8_put_79 : decode cX8_put 79 = .ok (.ireturn, 1) := by decide +kernel
theorem dX8_cell_0 : decode cX8_cell 0 = .ok (.aload_n 0, 1) := by decide +kernel
theorem dX8_cell_1 : decode cX8_cell 1 = .ok (.iconst 0, 1) := by decide +kernel
theorem dX8_cell_2 : decode cX8_cell 2 = .ok (.putfield 69, 3) := by decide +kernel
theorem dX8_cell_5 : decode cX8_cell 5 = .ok (.iload_n 1, 1) := by decide +kernel
theorem dX8_cell_6 : decode cX8_cell 6 = .ok (.invokestatic 113, 3) := by decide +kernel
theorem dX8_cell_9 : decode cX8_cell 9 = .ok (.ifCond .ne 15, 3) := by decide +kernel
theorem dX8_cell_12 : decode cX8_cell 12 = .ok (.iload_n 3, 1) := by decide +kernel
theorem dX8_cell_13 : decode cX8_cell 13 = .ok (.i2l, 1) := by decide +kernel
theorem dX8_cell_14 : decode cX8_cell 14 = .ok (.lconst 0, 1) := by decide +kernel
theorem dX8_cell_15 : decode cX8_cell 15 = .ok (.ldc2_w 97, 3) := by decide +kernel
theorem dX8_cell_18 : decode cX8_cell 18 = .ok (.invokestatic 80, 3) := by decide +kernel
theorem dX8_cell_21 : decode cX8_cell 21 = .ok (.ifCond .ne 7, 3) := by decide +kernel
theorem dX8_cell_24 : decode cX8_cell 24 = .ok (.invokestatic 73, 3) := by decide +kernel
theorem dX8_cell_27 : decode cX8_cell 27 = .ok (.lreturn, 1) := by decide +kernel
theorem dX8_cell_28 : decode cX8_cell 28 = .ok (.aload_n 0, 1) := by decide +kernel
theorem dX8_cell_29 : decode cX8_cell 29 = .ok (.getfield 55, 3) := by decide +kernel
theorem dX8_cell_32 : decode cX8_cell 32 = .ok (.iload_n 1, 1) := by decide +kernel
theorem dX8_cell_33 : decode cX8_cell 33 = .ok (.iaload, 1) := by decide +kernel
theorem dX8_cell_34 : decode cX8_cell 34 = .ok (.ifCond .lt 19, 3) := by decide +kernel
theorem dX8_cell_37 : decode cX8_cell 37 = .ok (.aload_n 0, 1) := by decide +kernel
theorem dX8_cell_38 : decode cX8_cell 38 = .ok (.getfield 58, 3) := by decide +kernel
theorem dX8_cell_41 : decode cX8_cell 41 = .ok (.iload_n 1, 1) := by decide +kernel
theorem dX8_cell_42 : decode cX8_cell 42 = .ok (.iaload, 1) := by decide +kernel
theorem dX8_cell_43 : decode cX8_cell 43 = .ok (.iload_n 3, 1) := by decide +kernel
theorem dX8_cell_44 : decode cX8_cell 44 = .ok (.if_icmp .eq 9, 3) := by decide +kernel
theorem dX8_cell_47 : decode cX8_cell 47 = .ok (.aload_n 0, 1) := by decide +kernel
theorem dX8_cell_48 : decode cX8_cell 48 = .ok (.iconst 2, 1) := by decide +kernel
theorem dX8_cell_49 : decode cX8_cell 49 = .ok (.invokevirtual 259, 3) := by decide +kernel
theorem dX8_cell_52 : decode cX8_cell 52 = .ok (.lreturn, 1) := by decide +kernel
theorem dX8_cell_53 : decode cX8_cell 53 = .ok (.aload_n 0, 1) := by decide +kernel
theorem dX8_cell_54 : decode cX8_cell 54 = .ok (.iload_n 1, 1) := by decide +kernel
theorem dX8_cell_55 : decode cX8_cell 55 = .ok (.iload_n 2, 1) := by decide +kernel
theorem dX8_cell_56 : decode cX8_cell 56 = .ok (.invokevirtual 256, 3) := by decide +kernel
theorem dX8_cell_59 : decode cX8_cell 59 = .ok (.ifCond .le 16, 3) := by decide +kernel
theorem dX8_cell_62 : decode cX8_cell 62 = .ok (.aload_n 0, 1) := by decide +kernel
theorem dX8_cell_63 : decode cX8_cell 63 = .ok (.aload_n 0, 1) := by decide +kernel
theorem dX8_cell_64 : decode cX8_cell 64 = .ok (.iload_n 1, 1) := by decide +kernel
theorem dX8_cell_65 : decode cX8_cell 65 = .ok (.iload_n 2, 1) := by decide +kernel
theorem dX8_cell_66 : decode cX8_cell 66 = .ok (.invokevirtual 256, 3) := by decide +kernel
theorem dX8_cell_69 : decode cX8_cell 69 = .ok (.invokevirtual 259, 3) := by decide +kernel
theorem dX8_cell_72 : decode cX8_cell 72 = .ok (.goto 15, 3) := by decide +kernel
theorem dX8_cell_75 : decode cX8_cell 75 = .ok (.aload_n 0, 1) := by decide +kernel
theorem dX8_cell_76 : decode cX8_cell 76 = .ok (.getfield 61, 3) := by decide +kernel
theorem dX8_cell_79 : decode cX8_cell 79 = .ok (.bipush 60, 2) := by decide +kernel
theorem dX8_cell_81 : decode cX8_cell 81 = .ok (.iload_n 1, 1) := by decide +kernel
theorem dX8_cell_82 : decode cX8_cell 82 = .ok (.imul, 1) := by decide +kernel
theorem dX8_cell_83 : decode cX8_cell 83 = .ok (.iload_n 2, 1) := by decide +kernel
theorem dX8_cell_84 : decode cX8_cell 84 = .ok (.iadd, 1) := by decide +kernel
theorem dX8_cell_85 : decode cX8_cell 85 = .ok (.iaload, 1) := by decide +kernel
theorem dX8_cell_86 : decode cX8_cell 86 = .ok (.i2l, 1) := by decide +kernel
theorem dX8_cell_87 : decode cX8_cell 87 = .ok (.lreturn, 1) := by decide +kernel
theorem dX8_isBeyond_0 : decode cX8_isBeyond 0 = .ok (.iload_n 0, 1) := by decide +kernel
theorem dX8_isBeyond_1 : decode cX8_isBeyond 1 = .ok (.ifCond .lt 19, 3) := by decide +kernel
theorem dX8_isBeyond_4 : decode cX8_isBeyond 4 = .ok (.lload_n 1, 1) := by decide +kernel
theorem dX8_isBeyond_5 : decode cX8_isBeyond 5 = .ok (.lconst 0, 1) := by decide +kernel
theorem dX8_isBeyond_6 : decode cX8_isBeyond 6 = .ok (.lcmp, 1) := by decide +kernel
theorem dX8_isBeyond_7 : decode cX8_isBeyond 7 = .ok (.ifCond .lt 13, 3) := by decide +kernel
theorem dX8_isBeyond_10 : decode cX8_isBeyond 10 = .ok (.iload_n 0, 1) := by decide +kernel
theorem dX8_isBeyond_11 : decode cX8_isBeyond 11 = .ok (.i2l, 1) := by decide +kernel
theorem dX8_isBeyond_12 : decode cX8_isBeyond 12 = .ok (.lload_n 1, 1) := by decide +kernel
theorem dX8_isBeyond_13 : decode cX8_isBeyond 13 = .ok (.ladd, 1) := by decide +kernel
theorem dX8_isBeyond_14 : decode cX8_isBeyond 14 = .ok (.iload_n 3, 1) := by decide +kernel
theorem dX8_isBeyond_15 : decode cX8_isBeyond 15 = .ok (.i2l, 1) := by decide +kernel
theorem dX8_isBeyond_16 : decode cX8_isBeyond 16 = .ok (.lcmp, 1) := by decide +kernel
theorem dX8_isBeyond_17 : decode cX8_isBeyond 17 = .ok (.ifCond .le 7, 3) := by decide +kernel
theorem dX8_isBeyond_20 : decode cX8_isBeyond 20 = .ok (.iconst 1, 1) := by decide +kernel
theorem dX8_isBeyond_21 : decode cX8_isBeyond 21 = .ok (.goto 4, 3) := by decide +kernel
theorem dX8_isBeyond_24 : decode cX8_isBeyond 24 = .ok (.iconst 0, 1) := by decide +kernel
theorem dX8_isBeyond_25 : decode cX8_isBeyond 25 = .ok (.ireturn, 1) := by decide +kernel
theorem dX8_copy_0 : decode cX8_copy 0 = .ok (.iload_n 1, 1) := by decide +kernel
theorem dX8_copy_1 : decode cX8_copy 1 = .ok (.invokestatic 113, 3) := by decide +kernel
theorem dX8_copy_4 : decode cX8_copy 4 = .ok (.ifCond .ne 10, 3) := by decide +kernel
theorem dX8_copy_7 : decode cX8_copy 7 = .ok (.iload_n 3, 1) := by decide +kernel
theorem dX8_copy_8 : decode cX8_copy 8 = .ok (.invokestatic 113, 3) := by decide +kernel
theorem dX8_copy_11 : decode cX8_copy 11 = .ok (.ifCond .eq 9, 3) := by decide +kernel
theorem dX8_copy_14 : decode cX8_copy 14 = .ok (.aload_n 0, 1) := by decide +kernel
theorem dX8_copy_15 : decode cX8_copy 15 = .ok (.iconst (-1), 1) := by decide +kernel
theorem dX8_copy_16 : decode cX8_copy 16 = .ok (.invokevirtual 117, 3) := by decide +kernel
theorem dX8_copy_19 : decode cX8_copy 19 = .ok (.ireturn, 1) := by decide +kernel
theorem dX8_copy_20 : decode cX8_copy 20 = .ok (.aload_n 0, 1) := by decide +kernel
theorem dX8_copy_21 : decode cX8_copy 21 = .ok (.getfield 55, 3) := by decide +kernel
theorem dX8_copy_24 : decode cX8_copy 24 = .ok (.iload_n 1, 1) := by decide +kernel
theorem dX8_copy_25 : decode cX8_copy 25 = .ok (.iaload, 1) := by decide +kernel
theorem dX8_copy_26 : decode cX8_copy 26 = .ok (.ifCond .lt 12, 3) := by decide +kernel
theorem dX8_copy_29 : decode cX8_copy 29 = .ok (.aload_n 0, 1) := by decide +kernel
theorem dX8_copy_30 : decode cX8_copy 30 = .ok (.getfield 55, 3) := by decide +kernel
theorem dX8_copy_33 : decode cX8_copy 33 = .ok (.iload_n 3, 1) := by decide +kernel
theorem dX8_copy_34 : decode cX8_copy 34 = .ok (.iaload, 1) := by decide +kernel
theorem dX8_copy_35 : decode cX8_copy 35 = .ok (.ifCond .ge 9, 3) := by decide +kernel
theorem dX8_copy_38 : decode cX8_copy 38 = .ok (.aload_n 0, 1) := by decide +kernel
theorem dX8_copy_39 : decode cX8_copy 39 = .ok (.iconst 1, 1) := by decide +kernel
theorem dX8_copy_40 : decode cX8_copy 40 = .ok (.invokevirtual 105, 3) := by decide +kernel
theorem dX8_copy_43 : decode cX8_copy 43 = .ok (.ireturn, 1) := by decide +kernel
theorem dX8_copy_44 : decode cX8_copy 44 = .ok (.aload_n 0, 1) := by decide +kernel
theorem dX8_copy_45 : decode cX8_copy 45 = .ok (.getfield 58, 3) := by decide +kernel
theorem dX8_copy_48 : decode cX8_copy 48 = .ok (.iload_n 1, 1) := by decide +kernel
theorem dX8_copy_49 : decode cX8_copy 49 = .ok (.iaload, 1) := by decide +kernel
theorem dX8_copy_50 : decode cX8_copy 50 = .ok (.aload_n 0, 1) := by decide +kernel
theorem dX8_copy_51 : decode cX8_copy 51 = .ok (.getfield 58, 3) := by decide +kernel
theorem dX8_copy_54 : decode cX8_copy 54 = .ok (.iload_n 3, 1) := by decide +kernel
theorem dX8_copy_55 : decode cX8_copy 55 = .ok (.iaload, 1) := by decide +kernel
theorem dX8_copy_56 : decode cX8_copy 56 = .ok (.if_icmp .eq 9, 3) := by decide +kernel
theorem dX8_copy_59 : decode cX8_copy 59 = .ok (.aload_n 0, 1) := by decide +kernel
theorem dX8_copy_60 : decode cX8_copy 60 = .ok (.iconst 2, 1) := by decide +kernel
theorem dX8_copy_61 : decode cX8_copy 61 = .ok (.invokevirtual 105, 3) := by decide +kernel
theorem dX8_copy_64 : decode cX8_copy 64 = .ok (.ireturn, 1) := by decide +kernel
theorem dX8_copy_65 : decode cX8_copy 65 = .ok (.iload_n 2, 1) := by decide +kernel
theorem dX8_copy_66 : decode cX8_copy 66 = .ok (.iload 5, 2) := by decide +kernel
theorem dX8_copy_68 : decode cX8_copy 68 = .ok (.i2l, 1) := by decide +kernel
theorem dX8_copy_69 : decode cX8_copy 69 = .ok (.aload_n 0, 1) := by decide +kernel
theorem dX8_copy_70 : decode cX8_copy 70 = .ok (.getfield 55, 3) := by decide +kernel
theorem dX8_copy_73 : decode cX8_copy 73 = .ok (.iload_n 1, 1) := by decide +kernel
theorem dX8_copy_74 : decode cX8_copy 74 = .ok (.iaload, 1) := by decide +kernel
theorem dX8_copy_75 : decode cX8_copy 75 = .ok (.invokestatic 109, 3) := by decide +kernel
theorem dX8_copy_78 : decode cX8_copy 78 = .ok (.ifCond .ne 20, 3) := by decide +kernel
theorem dX8_copy_81 : decode cX8_copy 81 = .ok (.iload 4, 2) := by decide +kernel
theorem dX8_copy_83 : decode cX8_copy 83 = .ok (.iload 5, 2) := by decide +kernel
theorem dX8_copy_85 : decode cX8_copy 85 = .ok (.i2l, 1) := by decide +kernel
theorem dX8_copy_86 : decode cX8_copy 86 = .ok (.aload_n 0, 1) := by decide +kernel
theorem dX8_copy_87 : decode cX8_copy 87 = .ok (.getfield 55, 3) := by decide +kernel
theorem dX8_copy_90 : decode cX8_copy 90 = .ok (.iload_n 3, 1) := by decide +kernel
theorem dX8_copy_91 : decode cX8_copy 91 = .ok (.iaload, 1) := by decide +kernel
theorem dX8_copy_92 : decode cX8_copy 92 = .ok (.invokestatic 109, 3) := by decide +kernel
theorem dX8_copy_95 : decode cX8_copy 95 = .ok (.ifCond .eq 9, 3) := by decide +kernel
theorem dX8_copy_98 : decode cX8_copy 98 = .ok (.aload_n 0, 1) := by decide +kernel
theorem dX8_copy_99 : decode cX8_copy 99 = .ok (.iconst 3, 1) := by decide +kernel
theorem dX8_copy_100 : decode cX8_copy 100 = .ok (.invokevirtual 105, 3) := by decide +kernel
theorem dX8_copy_103 : decode cX8_copy 103 = .ok (.ireturn, 1) := by decide +kernel
theorem dX8_copy_104 : decode cX8_copy 104 = .ok (.iconst 0, 1) := by decide +kernel
theorem dX8_copy_105 : decode cX8_copy 105 = .ok (.istore 6, 2) := by decide +kernel
theorem dX8_copy_107 : decode cX8_copy 107 = .ok (.iload 6, 2) := by decide +kernel
theorem dX8_copy_109 : decode cX8_copy 109 = .ok (.iload 5, 2) := by decide +kernel
theorem dX8_copy_111 : decode cX8_copy 111 = .ok (.if_icmp .ge 30, 3) := by decide +kernel
theorem dX8_copy_114 : decode cX8_copy 114 = .ok (.aload_n 0, 1) := by decide +kernel
theorem dX8_copy_115 : decode cX8_copy 115 = .ok (.getfield 64, 3) := by decide +kernel
theorem dX8_copy_118 : decode cX8_copy 118 = .ok (.iload 6, 2) := by decide +kernel
theorem dX8_copy_120 : decode cX8_copy 120 = .ok (.aload_n 0, 1) := by decide +kernel
theorem dX8_copy_121 : decode cX8_copy 121 = .ok (.getfield 61, 3) := by decide +kernel
theorem dX8_copy_124 : decode cX8_copy 124 = .ok (.bipush 60, 2) := by decide +kernel
theorem dX8_copy_126 : decode cX8_copy 126 = .ok (.iload_n 1, 1) := by decide +kernel
theorem dX8_copy_127 : decode cX8_copy 127 = .ok (.imul, 1) := by decide +kernel
theorem dX8_copy_128 : decode cX8_copy 128 = .ok (.iload_n 2, 1) := by decide +kernel
theorem dX8_copy_129 : decode cX8_copy 129 = .ok (.iadd, 1) := by decide +kernel
theorem dX8_copy_130 : decode cX8_copy 130 = .ok (.iload 6, 2) := by decide +kernel
theorem dX8_copy_132 : decode cX8_copy 132 = .ok (.iadd, 1) := by decide +kernel
theorem dX8_copy_133 : decode cX8_copy 133 = .ok (.iaload, 1) := by decide +kernel
theorem dX8_copy_134 : decode cX8_copy 134 = .ok (.iastore, 1) := by decide +kernel
theorem dX8_copy_135 : decode cX8_copy 135 = .ok (.iinc 6 1, 3) := by decide +kernel
theorem dX8_copy_138 : decode cX8_copy 138 = .ok (.goto (-31), 3) := by decide +kernel
theorem dX8_copy_141 : decode cX8_copy 141 = .ok (.iconst 0, 1) := by decide +kernel
theorem dX8_copy_142 : decode cX8_copy 142 = .ok (.istore 6, 2) := by decide +kernel
theorem dX8_copy_144 : decode cX8_copy 144 = .ok (.iload 6, 2) := by decide +kernel
theorem dX8_copy_146 : decode cX8_copy 146 = .ok (.iload 5, 2) := by decide +kernel
theorem dX8_copy_148 : decode cX8_copy 148 = .ok (.if_icmp .ge 31, 3) := by decide +kernel
theorem dX8_copy_151 : decode cX8_copy 151 = .ok (.aload_n 0, 1) := by decide +kernel
theorem dX8_copy_152 : decode cX8_copy 152 = .ok (.getfield 61, 3) := by decide +kernel
theorem dX8_copy_155 : decode cX8_copy 155 = .ok (.bipush 60, 2) := by decide +kernel
theorem dX8_copy_157 : decode cX8_copy 157 = .ok (.iload_n 3, 1) := by decide +kernel
theorem dX8_copy_158 : decode cX8_copy 158 = .ok (.imul, 1) := by decide +kernel
theorem dX8_copy_159 : decode cX8_copy 159 = .ok (.iload 4, 2) := by decide +kernel
theorem dX8_copy_161 : decode cX8_copy 161 = .ok (.iadd, 1) := by decide +kernel
theorem dX8_copy_162 : decode cX8_copy 162 = .ok (.iload 6, 2) := by decide +kernel
theorem dX8_copy_164 : decode cX8_copy 164 = .ok (.iadd, 1) := by decide +kernel
theorem dX8_copy_165 : decode cX8_copy 165 = .ok (.aload_n 0, 1) := by decide +kernel
theorem dX8_copy_166 : decode cX8_copy 166 = .ok (.getfield 64, 3) := by decide +kernel
theorem dX8_copy_169 : decode cX8_copy 169 = .ok (.iload 6, 2) := by decide +kernel
theorem dX8_copy_171 : decode cX8_copy 171 = .ok (.iaload, 1) := by decide +kernel
theorem dX8_copy_172 : decode cX8_copy 172 = .ok (.iastore, 1) := by decide +kernel
theorem dX8_copy_173 : decode cX8_copy 173 = .ok (.iinc 6 1, 3) := by decide +kernel
theorem dX8_copy_176 : decode cX8_copy 176 = .ok (.goto (-32), 3) := by decide +kernel
theorem dX8_copy_179 : decode cX8_copy 179 = .ok (.aload_n 0, 1) := by decide +kernel
theorem dX8_copy_180 : decode cX8_copy 180 = .ok (.iload 5, 2) := by decide +kernel
theorem dX8_copy_182 : decode cX8_copy 182 = .ok (.invokevirtual 117, 3) := by decide +kernel
theorem dX8_copy_185 : decode cX8_copy 185 = .ok (.ireturn, 1) := by decide +kernel
theorem dX8_traced_0 : decode cX8_traced 0 = .ok (.aload_n 0, 1) := by decide +kernel
theorem dX8_traced_1 : decode cX8_traced 1 = .ok (.bipush 31, 2) := by decide +kernel
theorem dX8_traced_3 : decode cX8_traced 3 = .ok (.aload_n 0, 1) := by decide +kernel
theorem dX8_traced_4 : decode cX8_traced 4 = .ok (.getfield 263, 3) := by decide +kernel
theorem dX8_traced_7 : decode cX8_traced 7 = .ok (.imul, 1) := by decide +kernel
theorem dX8_traced_8 : decode cX8_traced 8 = .ok (.iload_n 1, 1) := by decide +kernel
theorem dX8_traced_9 : decode cX8_traced 9 = .ok (.iadd, 1) := by decide +kernel
theorem dX8_traced_10 : decode cX8_traced 10 = .ok (.putfield 263, 3) := by decide +kernel
theorem dX8_traced_13 : decode cX8_traced 13 = .ok (.return_, 1) := by decide +kernel
theorem dX8_tell_0 : decode cX8_tell 0 = .ok (.aload_n 0, 1) := by decide +kernel
theorem dX8_tell_1 : decode cX8_tell 1 = .ok (.iload_n 1, 1) := by decide +kernel
theorem dX8_tell_2 : decode cX8_tell 2 = .ok (.invokevirtual 149, 3) := by decide +kernel
theorem dX8_tell_5 : decode cX8_tell 5 = .ok (.ifCond .eq 5, 3) := by decide +kernel
theorem dX8_tell_8 : decode cX8_tell 8 = .ok (.iconst (-1), 1) := by decide +kernel
theorem dX8_tell_9 : decode cX8_tell 9 = .ok (.ireturn, 1) := by decide +kernel
theorem dX8_tell_10 : decode cX8_tell 10 = .ok (.aload_n 0, 1) := by decide +kernel
theorem dX8_tell_11 : decode cX8_tell 11 = .ok (.getfield 7, 3) := by decide +kernel
theorem dX8_tell_14 : decode cX8_tell 14 = .ok (.iload_n 1, 1) := by decide +kernel
theorem dX8_tell_15 : decode cX8_tell 15 = .ok (.iaload, 1) := by decide +kernel
theorem dX8_tell_16 : decode cX8_tell 16 = .ok (.istore_n 2, 1) := by decide +kernel
theorem dX8_tell_17 : decode cX8_tell 17 = .ok (.iload_n 2, 1) := by decide +kernel
theorem dX8_tell_18 : decode cX8_tell 18 = .ok (.iconst 2, 1) := by decide +kernel
theorem dX8_tell_19 : decode cX8_tell 19 = .ok (.if_icmp .ne 8, 3) := by decide +kernel
theorem dX8_tell_22 : decode cX8_tell 22 = .ok (.aload_n 0, 1) := by decide +kernel
theorem dX8_tell_23 : decode cX8_tell 23 = .ok (.iconst 3, 1) := by decide +kernel
theorem dX8_tell_24 : decode cX8_tell 24 = .ok (.invokevirtual 266, 3) := by decide +kernel
theorem dX8_tell_27 : decode cX8_tell 27 = .ok (.iload_n 2, 1) := by decide +kernel
theorem dX8_tell_28 : decode cX8_tell 28 = .ok (.ifCond .le 8, 3) := by decide +kernel
theorem dX8_tell_31 : decode cX8_tell 31 = .ok (.aload_n 0, 1) := by decide +kernel
theorem dX8_tell_32 : decode cX8_tell 32 = .ok (.iconst 2, 1) := by decide +kernel
theorem dX8_tell_33 : decode cX8_tell 33 = .ok (.invokevirtual 266, 3) := by decide +kernel
theorem dX8_tell_36 : decode cX8_tell 36 = .ok (.aload_n 0, 1) := by decide +kernel
theorem dX8_tell_37 : decode cX8_tell 37 = .ok (.iconst 1, 1) := by decide +kernel
theorem dX8_tell_38 : decode cX8_tell 38 = .ok (.invokevirtual 266, 3) := by decide +kernel
theorem dX8_tell_41 : decode cX8_tell 41 = .ok (.iload_n 2, 1) := by decide +kernel
theorem dX8_tell_42 : decode cX8_tell 42 = .ok (.iconst 2, 1) := by decide +kernel
theorem dX8_tell_43 : decode cX8_tell 43 = .ok (.if_icmp .ne 8, 3) := by decide +kernel
theorem dX8_tell_46 : decode cX8_tell 46 = .ok (.aload_n 0, 1) := by decide +kernel
theorem dX8_tell_47 : decode cX8_tell 47 = .ok (.iconst 1, 1) := by decide +kernel
theorem dX8_tell_48 : decode cX8_tell 48 = .ok (.invokevirtual 266, 3) := by decide +kernel
theorem dX8_tell_51 : decode cX8_tell 51 = .ok (.aload_n 0, 1) := by decide +kernel
theorem dX8_tell_52 : decode cX8_tell 52 = .ok (.getfield 13, 3) := by decide +kernel
theorem dX8_tell_55 : decode cX8_tell 55 = .ok (.iload_n 1, 1) := by decide +kernel
theorem dX8_tell_56 : decode cX8_tell 56 = .ok (.iaload, 1) := by decide +kernel
theorem dX8_tell_57 : decode cX8_tell 57 = .ok (.istore_n 3, 1) := by decide +kernel
theorem dX8_tell_58 : decode cX8_tell 58 = .ok (.iload_n 2, 1) := by decide +kernel
theorem dX8_tell_59 : decode cX8_tell 59 = .ok (.ifCond .ne 7, 3) := by decide +kernel
theorem dX8_tell_62 : decode cX8_tell 62 = .ok (.iload_n 3, 1) := by decide +kernel
theorem dX8_tell_63 : decode cX8_tell 63 = .ok (.goto 21, 3) := by decide +kernel
theorem dX8_tell_66 : decode cX8_tell 66 = .ok (.iload_n 2, 1) := by decide +kernel
theorem dX8_tell_67 : decode cX8_tell 67 = .ok (.iconst 1, 1) := by decide +kernel
theorem dX8_tell_68 : decode cX8_tell 68 = .ok (.if_icmp .ne 10, 3) := by decide +kernel
theorem dX8_tell_71 : decode cX8_tell 71 = .ok (.iload_n 3, 1) := by decide +kernel
theorem dX8_tell_72 : decode cX8_tell 72 = .ok (.bipush 100, 2) := by decide +kernel
theorem dX8_tell_74 : decode cX8_tell 74 = .ok (.iadd, 1) := by decide +kernel
theorem dX8_tell_75 : decode cX8_tell 75 = .ok (.goto 9, 3) := by decide +kernel
theorem dX8_tell_78 : decode cX8_tell 78 = .ok (.iconst 2, 1) := by decide +kernel
theorem dX8_tell_79 : decode cX8_tell 79 = .ok (.iload_n 3, 1) := by decide +kernel
theorem dX8_tell_80 : decode cX8_tell 80 = .ok (.imul, 1) := by decide +kernel
theorem dX8_tell_81 : decode cX8_tell 81 = .ok (.bipush 100, 2) := by decide +kernel
theorem dX8_tell_83 : decode cX8_tell 83 = .ok (.iadd, 1) := by decide +kernel
theorem dX8_tell_84 : decode cX8_tell 84 = .ok (.ireturn, 1) := by decide +kernel
theorem dX8_call_0 : decode cX8_call 0 = .ok (.aload_n 0, 1) := by decide +kernel
theorem dX8_call_1 : decode cX8_call 1 = .ok (.iload_n 1, 1) := by decide +kernel
theorem dX8_call_2 : decode cX8_call 2 = .ok (.invokevirtual 149, 3) := by decide +kernel
theorem dX8_call_5 : decode cX8_call 5 = .ok (.ifCond .eq 5, 3) := by decide +kernel
theorem dX8_call_8 : decode cX8_call 8 = .ok (.iconst (-1), 1) := by decide +kernel
theorem dX8_call_9 : decode cX8_call 9 = .ok (.ireturn, 1) := by decide +kernel
theorem dX8_call_10 : decode cX8_call 10 = .ok (.aload_n 0, 1) := by decide +kernel
theorem dX8_call_11 : decode cX8_call 11 = .ok (.aload_n 0, 1) := by decide +kernel
theorem dX8_call_12 : decode cX8_call 12 = .ok (.getfield 7, 3) := by decide +kernel
theorem dX8_call_15 : decode cX8_call 15 = .ok (.iload_n 1, 1) := by decide +kernel
theorem dX8_call_16 : decode cX8_call 16 = .ok (.iaload, 1) := by decide +kernel
theorem dX8_call_17 : decode cX8_call 17 = .ok (.iconst 2, 1) := by decide +kernel
theorem dX8_call_18 : decode cX8_call 18 = .ok (.if_icmp .ne 7, 3) := by decide +kernel
theorem dX8_call_21 : decode cX8_call 21 = .ok (.iconst 5, 1) := by decide +kernel
theorem dX8_call_22 : decode cX8_call 22 = .ok (.goto 4, 3) := by decide +kernel
theorem dX8_call_25 : decode cX8_call 25 = .ok (.iconst 4, 1) := by decide +kernel
theorem dX8_call_26 : decode cX8_call 26 = .ok (.invokevirtual 266, 3) := by decide +kernel
theorem dX8_call_29 : decode cX8_call 29 = .ok (.aload_n 0, 1) := by decide +kernel
theorem dX8_call_30 : decode cX8_call 30 = .ok (.getfield 7, 3) := by decide +kernel
theorem dX8_call_33 : decode cX8_call 33 = .ok (.iload_n 1, 1) := by decide +kernel
theorem dX8_call_34 : decode cX8_call 34 = .ok (.iaload, 1) := by decide +kernel
theorem dX8_call_35 : decode cX8_call 35 = .ok (.iconst 2, 1) := by decide +kernel
theorem dX8_call_36 : decode cX8_call 36 = .ok (.if_icmp .ne 8, 3) := by decide +kernel
theorem dX8_call_39 : decode cX8_call 39 = .ok (.bipush 60, 2) := by decide +kernel
theorem dX8_call_41 : decode cX8_call 41 = .ok (.goto 4, 3) := by decide +kernel
theorem dX8_call_44 : decode cX8_call 44 = .ok (.iload_n 1, 1) := by decide +kernel
theorem dX8_call_45 : decode cX8_call 45 = .ok (.ireturn, 1) := by decide +kernel
theorem dX8_as_0 : decode cX8_as 0 = .ok (.aload_n 0, 1) := by decide +kernel
theorem dX8_as_1 : decode cX8_as 1 = .ok (.iload_n 1, 1) := by decide +kernel
theorem dX8_as_2 : decode cX8_as 2 = .ok (.invokevirtual 149, 3) := by decide +kernel
theorem dX8_as_5 : decode cX8_as 5 = .ok (.ifCond .eq 9, 3) := by decide +kernel
theorem dX8_as_8 : decode cX8_as 8 = .ok (.aload_n 0, 1) := by decide +kernel
theorem dX8_as_9 : decode cX8_as 9 = .ok (.iconst (-1), 1) := by decide +kernel
theorem dX8_as_10 : decode cX8_as 10 = .ok (.invokevirtual 117, 3) := by decide +kernel
theorem dX8_as_13 : decode cX8_as 13 = .ok (.ireturn, 1) := by decide +kernel
theorem dX8_as_14 : decode cX8_as 14 = .ok (.iload_n 2, 1) := by decide +kernel
theorem dX8_as_15 : decode cX8_as 15 = .ok (.i2l, 1) := by decide +kernel
theorem dX8_as_16 : decode cX8_as 16 = .ok (.lconst 0, 1) := by decide +kernel
theorem dX8_as_17 : decode cX8_as 17 = .ok (.ldc2_w 97, 3) := by decide +kernel
theorem dX8_as_20 : decode cX8_as 20 = .ok (.invokestatic 80, 3) := by decide +kernel
theorem dX8_as_23 : decode cX8_as 23 = .ok (.ifCond .ne 10, 3) := by decide +kernel
theorem dX8_as_26 : decode cX8_as 26 = .ok (.aload_n 0, 1) := by decide +kernel
theorem dX8_as_27 : decode cX8_as 27 = .ok (.bipush (-2), 2) := by decide +kernel
theorem dX8_as_29 : decode cX8_as 29 = .ok (.invokevirtual 117, 3) := by decide +kernel
theorem dX8_as_32 : decode cX8_as 32 = .ok (.ireturn, 1) := by decide +kernel
theorem dX8_as_33 : decode cX8_as 33 = .ok (.aload_n 0, 1) := by decide +kernel
theorem dX8_as_34 : decode cX8_as 34 = .ok (.getfield 7, 3) := by decide +kernel
theorem dX8_as_37 : decode cX8_as 37 = .ok (.iload_n 1, 1) := by decide +kernel
theorem dX8_as_38 : decode cX8_as 38 = .ok (.iaload, 1) := by decide +kernel
theorem dX8_as_39 : decode cX8_as 39 = .ok (.iload_n 2, 1) := by decide +kernel
theorem dX8_as_40 : decode cX8_as 40 = .ok (.if_icmp .lt 11, 3) := by decide +kernel
theorem dX8_as_43 : decode cX8_as 43 = .ok (.aload_n 0, 1) := by decide +kernel
theorem dX8_as_44 : decode cX8_as 44 = .ok (.iconst 1, 1) := by decide +kernel
theorem dX8_as_45 : decode cX8_as 45 = .ok (.invokevirtual 117, 3) := by decide +kernel
theorem dX8_as_48 : decode cX8_as 48 = .ok (.goto 8, 3) := by decide +kernel
theorem dX8_as_51 : decode cX8_as 51 = .ok (.aload_n 0, 1) := by decide +kernel
theorem dX8_as_52 : decode cX8_as 52 = .ok (.iconst 2, 1) := by decide +kernel
theorem dX8_as_53 : decode cX8_as 53 = .ok (.invokevirtual 105, 3) := by decide +kernel
theorem dX8_as_56 : decode cX8_as 56 = .ok (.ireturn, 1) := by decide +kernel
theorem dX8_trace_0 : decode cX8_trace 0 = .ok (.aload_n 0, 1) := by decide +kernel
theorem dX8_trace_1 : decode cX8_trace 1 = .ok (.getfield 263, 3) := by decide +kernel
theorem dX8_trace_4 : decode cX8_trace 4 = .ok (.ireturn, 1) := by decide +kernel
theorem dX8_fault_0 : decode cX8_fault 0 = .ok (.aload_n 0, 1) := by decide +kernel
theorem dX8_fault_1 : decode cX8_fault 1 = .ok (.getfield 69, 3) := by decide +kernel
theorem dX8_fault_4 : decode cX8_fault 4 = .ok (.ireturn, 1) := by decide +kernel
theorem dX8_many_0 : decode cX8_many 0 = .ok (.iload_n 1, 1) := by decide +kernel
theorem dX8_many_1 : decode cX8_many 1 = .ok (.tableswitch 60 0 4 #[35, 40, 45, 50, 55], 35) := by decide +kernel
theorem dX8_many_36 : decode cX8_many 36 = .ok (.aload_n 0, 1) := by decide +kernel
theorem dX8_many_37 : decode cX8_many 37 = .ok (.getfield 77, 3) := by decide +kernel
theorem dX8_many_40 : decode cX8_many 40 = .ok (.ireturn, 1) := by decide +kernel
theorem dX8_many_41 : decode cX8_many 41 = .ok (.aload_n 0, 1) := by decide +kernel
theorem dX8_many_42 : decode cX8_many 42 = .ok (.getfield 127, 3) := by decide +kernel
theorem dX8_many_45 : decode cX8_many 45 = .ok (.ireturn, 1) := by decide +kernel
theorem dX8_many_46 : decode cX8_many 46 = .ok (.aload_n 0, 1) := by decide +kernel
theorem dX8_many_47 : decode cX8_many 47 = .ok (.getfield 130, 3) := by decide +kernel
theorem dX8_many_50 : decode cX8_many 50 = .ok (.ireturn, 1) := by decide +kernel
theorem dX8_many_51 : decode cX8_many 51 = .ok (.aload_n 0, 1) := by decide +kernel
theorem dX8_many_52 : decode cX8_many 52 = .ok (.invokevirtual 164, 3) := by decide +kernel
theorem dX8_many_55 : decode cX8_many 55 = .ok (.ireturn, 1) := by decide +kernel
theorem dX8_many_56 : decode cX8_many 56 = .ok (.aload_n 0, 1) := by decide +kernel
theorem dX8_many_57 : decode cX8_many 57 = .ok (.getfield 133, 3) := by decide +kernel
theorem dX8_many_60 : decode cX8_many 60 = .ok (.ireturn, 1) := by decide +kernel
theorem dX8_many_61 : decode cX8_many 61 = .ok (.bipush (-2), 2) := by decide +kernel
theorem dX8_many_63 : decode cX8_many 63 = .ok (.ireturn, 1) := by decide +kernel
theorem dJ6_bitCount_0f7a4_0 : decode cJ6_bitCount_0f7a4 0 = .ok (.iload_n 0, 1) := by decide +kernel
theorem dJ6_bitCount_0f7a4_1 : decode cJ6_bitCount_0f7a4 1 = .ok (.iload_n 0, 1) := by decide +kernel
theorem dJ6_bitCount_0f7a4_2 : decode cJ6_bitCount_0f7a4 2 = .ok (.iconst 1, 1) := by decide +kernel
theorem dJ6_bitCount_0f7a4_3 : decode cJ6_bitCount_0f7a4 3 = .ok (.iushr, 1) := by decide +kernel
theorem dJ6_bitCount_0f7a4_4 : decode cJ6_bitCount_0f7a4 4 = .ok (.ldc_w 265, 3) := by decide +kernel
theorem dJ6_bitCount_0f7a4_7 : decode cJ6_bitCount_0f7a4 7 = .ok (.iand, 1) := by decide +kernel
theorem dJ6_bitCount_0f7a4_8 : decode cJ6_bitCount_0f7a4 8 = .ok (.isub, 1) := by decide +kernel
theorem dJ6_bitCount_0f7a4_9 : decode cJ6_bitCount_0f7a4 9 = .ok (.istore_n 0, 1) := by decide +kernel
theorem dJ6_bitCount_0f7a4_10 : decode cJ6_bitCount_0f7a4 10 = .ok (.iload_n 0, 1) := by decide +kernel
theorem dJ6_bitCount_0f7a4_11 : decode cJ6_bitCount_0f7a4 11 = .ok (.ldc_w 266, 3) := by decide +kernel
theorem dJ6_bitCount_0f7a4_14 : decode cJ6_bitCount_0f7a4 14 = .ok (.iand, 1) := by decide +kernel
theorem dJ6_bitCount_0f7a4_15 : decode cJ6_bitCount_0f7a4 15 = .ok (.iload_n 0, 1) := by decide +kernel
theorem dJ6_bitCount_0f7a4_16 : decode cJ6_bitCount_0f7a4 16 = .ok (.iconst 2, 1) := by decide +kernel
theorem dJ6_bitCount_0f7a4_17 : decode cJ6_bitCount_0f7a4 17 = .ok (.iushr, 1) := by decide +kernel
theorem dJ6_bitCount_0f7a4_18 : decode cJ6_bitCount_0f7a4 18 = .ok (.ldc_w 266, 3) := by decide +kernel
theorem dJ6_bitCount_0f7a4_21 : decode cJ6_bitCount_0f7a4 21 = .ok (.iand, 1) := by decide +kernel
theorem dJ6_bitCount_0f7a4_22 : decode cJ6_bitCount_0f7a4 22 = .ok (.iadd, 1) := by decide +kernel
theorem dJ6_bitCount_0f7a4_23 : decode cJ6_bitCount_0f7a4 23 = .ok (.istore_n 0, 1) := by decide +kernel
theorem dJ6_bitCount_0f7a4_24 : decode cJ6_bitCount_0f7a4 24 = .ok (.iload_n 0, 1) := by decide +kernel
theorem dJ6_bitCount_0f7a4_25 : decode cJ6_bitCount_0f7a4 25 = .ok (.iload_n 0, 1) := by decide +kernel
theorem dJ6_bitCount_0f7a4_26 : decode cJ6_bitCount_0f7a4 26 = .ok (.iconst 4, 1) := by decide +kernel
theorem dJ6_bitCount_0f7a4_27 : decode cJ6_bitCount_0f7a4 27 = .ok (.iushr, 1) := by decide +kernel
theorem dJ6_bitCount_0f7a4_28 : decode cJ6_bitCount_0f7a4 28 = .ok (.iadd, 1) := by decide +kernel
theorem dJ6_bitCount_0f7a4_29 : decode cJ6_bitCount_0f7a4 29 = .ok (.ldc_w 267, 3) := by decide +kernel
theorem dJ6_bitCount_0f7a4_32 : decode cJ6_bitCount_0f7a4 32 = .ok (.iand, 1) := by decide +kernel
theorem dJ6_bitCount_0f7a4_33 : decode cJ6_bitCount_0f7a4 33 = .ok (.istore_n 0, 1) := by decide +kernel
theorem dJ6_bitCount_0f7a4_34 : decode cJ6_bitCount_0f7a4 34 = .ok (.iload_n 0, 1) := by decide +kernel
theorem dJ6_bitCount_0f7a4_35 : decode cJ6_bitCount_0f7a4 35 = .ok (.iload_n 0, 1) := by decide +kernel
theorem dJ6_bitCount_0f7a4_36 : decode cJ6_bitCount_0f7a4 36 = .ok (.bipush 8, 2) := by decide +kernel
theorem dJ6_bitCount_0f7a4_38 : decode cJ6_bitCount_0f7a4 38 = .ok (.iushr, 1) := by decide +kernel
theorem dJ6_bitCount_0f7a4_39 : decode cJ6_bitCount_0f7a4 39 = .ok (.iadd, 1) := by decide +kernel
theorem dJ6_bitCount_0f7a4_40 : decode cJ6_bitCount_0f7a4 40 = .ok (.istore_n 0, 1) := by decide +kernel
theorem dJ6_bitCount_0f7a4_41 : decode cJ6_bitCount_0f7a4 41 = .ok (.iload_n 0, 1) := by decide +kernel
theorem dJ6_bitCount_0f7a4_42 : decode cJ6_bitCount_0f7a4 42 = .ok (.iload_n 0, 1) := by decide +kernel
theorem dJ6_bitCount_0f7a4_43 : decode cJ6_bitCount_0f7a4 43 = .ok (.bipush 16, 2) := by decide +kernel
theorem dJ6_bitCount_0f7a4_45 : decode cJ6_bitCount_0f7a4 45 = .ok (.iushr, 1) := by decide +kernel
theorem dJ6_bitCount_0f7a4_46 : decode cJ6_bitCount_0f7a4 46 = .ok (.iadd, 1) := by decide +kernel
theorem dJ6_bitCount_0f7a4_47 : decode cJ6_bitCount_0f7a4 47 = .ok (.istore_n 0, 1) := by decide +kernel
theorem dJ6_bitCount_0f7a4_48 : decode cJ6_bitCount_0f7a4 48 = .ok (.iload_n 0, 1) := by decide +kernel
theorem dJ6_bitCount_0f7a4_49 : decode cJ6_bitCount_0f7a4 49 = .ok (.bipush 63, 2) := by decide +kernel
theorem dJ6_bitCount_0f7a4_51 : decode cJ6_bitCount_0f7a4 51 = .ok (.iand, 1) := by decide +kernel
theorem dJ6_bitCount_0f7a4_52 : decode cJ6_bitCount_0f7a4 52 = .ok (.ireturn, 1) := by decide +kernel
theorem dJ9_abs_0f7a4_0 : decode cJ9_abs_0f7a4 0 = .ok (.iload_n 0, 1) := by decide +kernel
theorem dJ9_abs_0f7a4_1 : decode cJ9_abs_0f7a4 1 = .ok (.ifCond .ge 8, 3) := by decide +kernel
theorem dJ9_abs_0f7a4_4 : decode cJ9_abs_0f7a4 4 = .ok (.iload_n 0, 1) := by decide +kernel
theorem dJ9_abs_0f7a4_5 : decode cJ9_abs_0f7a4 5 = .ok (.ineg, 1) := by decide +kernel
theorem dJ9_abs_0f7a4_6 : decode cJ9_abs_0f7a4 6 = .ok (.goto 4, 3) := by decide +kernel
theorem dJ9_abs_0f7a4_9 : decode cJ9_abs_0f7a4 9 = .ok (.iload_n 0, 1) := by decide +kernel
theorem dJ9_abs_0f7a4_10 : decode cJ9_abs_0f7a4 10 = .ok (.ireturn, 1) := by decide +kernel
theorem dJ9_max_7cf53_0 : decode cJ9_max_7cf53 0 = .ok (.iload_n 0, 1) := by decide +kernel
theorem dJ9_max_7cf53_1 : decode cJ9_max_7cf53 1 = .ok (.iload_n 1, 1) := by decide +kernel
theorem dJ9_max_7cf53_2 : decode cJ9_max_7cf53 2 = .ok (.if_icmp .lt 7, 3) := by decide +kernel
theorem dJ9_max_7cf53_5 : decode cJ9_max_7cf53 5 = .ok (.iload_n 0, 1) := by decide +kernel
theorem dJ9_max_7cf53_6 : decode cJ9_max_7cf53 6 = .ok (.goto 4, 3) := by decide +kernel
theorem dJ9_max_7cf53_9 : decode cJ9_max_7cf53 9 = .ok (.iload_n 1, 1) := by decide +kernel
theorem dJ9_max_7cf53_10 : decode cJ9_max_7cf53 10 = .ok (.ireturn, 1) := by decide +kernel
theorem dJ9_min_7cf53_0 : decode cJ9_min_7cf53 0 = .ok (.iload_n 0, 1) := by decide +kernel
theorem dJ9_min_7cf53_1 : decode cJ9_min_7cf53 1 = .ok (.iload_n 1, 1) := by decide +kernel
theorem dJ9_min_7cf53_2 : decode cJ9_min_7cf53 2 = .ok (.if_icmp .gt 7, 3) := by decide +kernel
theorem dJ9_min_7cf53_5 : decode cJ9_min_7cf53 5 = .ok (.iload_n 0, 1) := by decide +kernel
theorem dJ9_min_7cf53_6 : decode cJ9_min_7cf53 6 = .ok (.goto 4, 3) := by decide +kernel
theorem dJ9_min_7cf53_9 : decode cJ9_min_7cf53 9 = .ok (.iload_n 1, 1) := by decide +kernel
theorem dJ9_min_7cf53_10 : decode cJ9_min_7cf53 10 = .ok (.ireturn, 1) := by decide +kernel
theorem dJ7_fill_53178_0 : decode cJ7_fill_53178 0 = .ok (.iconst 0, 1) := by decide +kernel
theorem dJ7_fill_53178_1 : decode cJ7_fill_53178 1 = .ok (.istore_n 2, 1) := by decide +kernel
theorem dJ7_fill_53178_2 : decode cJ7_fill_53178 2 = .ok (.aload_n 0, 1) := by decide +kernel
theorem dJ7_fill_53178_3 : decode cJ7_fill_53178 3 = .ok (.arraylength, 1) := by decide +kernel
theorem dJ7_fill_53178_4 : decode cJ7_fill_53178 4 = .ok (.istore_n 3, 1) := by decide +kernel
theorem dJ7_fill_53178_5 : decode cJ7_fill_53178 5 = .ok (.iload_n 2, 1) := by decide +kernel
theorem dJ7_fill_53178_6 : decode cJ7_fill_53178 6 = .ok (.iload_n 3, 1) := by decide +kernel
theorem dJ7_fill_53178_7 : decode cJ7_fill_53178 7 = .ok (.if_icmp .ge 13, 3) := by decide +kernel
theorem dJ7_fill_53178_10 : decode cJ7_fill_53178 10 = .ok (.aload_n 0, 1) := by decide +kernel
theorem dJ7_fill_53178_11 : decode cJ7_fill_53178 11 = .ok (.iload_n 2, 1) := by decide +kernel
theorem dJ7_fill_53178_12 : decode cJ7_fill_53178 12 = .ok (.iload_n 1, 1) := by decide +kernel
theorem dJ7_fill_53178_13 : decode cJ7_fill_53178 13 = .ok (.iastore, 1) := by decide +kernel
theorem dJ7_fill_53178_14 : decode cJ7_fill_53178 14 = .ok (.iinc 2 1, 3) := by decide +kernel
theorem dJ7_fill_53178_17 : decode cJ7_fill_53178 17 = .ok (.goto (-12), 3) := by decide +kernel
theorem dJ7_fill_53178_20 : decode cJ7_fill_53178 20 = .ok (.return_, 1) := by decide +kernel
theorem dL_law_0 : decode cL_law 0 = .ok (.new 7, 3) := by decide +kernel
theorem dL_law_3 : decode cL_law 3 = .ok (.dup, 1) := by decide +kernel
theorem dL_law_4 : decode cL_law 4 = .ok (.invokespecial 9, 3) := by decide +kernel
theorem dL_law_7 : decode cL_law 7 = .ok (.astore_n 1, 1) := by decide +kernel
theorem dL_law_8 : decode cL_law 8 = .ok (.new 10, 3) := by decide +kernel
theorem dL_law_11 : decode cL_law 11 = .ok (.dup, 1) := by decide +kernel
theorem dL_law_12 : decode cL_law 12 = .ok (.invokespecial 12, 3) := by decide +kernel
theorem dL_law_15 : decode cL_law 15 = .ok (.astore_n 2, 1) := by decide +kernel
theorem dL_law_16 : decode cL_law 16 = .ok (.iconst 0, 1) := by decide +kernel
theorem dL_law_17 : decode cL_law 17 = .ok (.istore_n 3, 1) := by decide +kernel
theorem dL_law_18 : decode cL_law 18 = .ok (.iload_n 3, 1) := by decide +kernel
theorem dL_law_19 : decode cL_law 19 = .ok (.aload_n 0, 1) := by decide +kernel
theorem dL_law_20 : decode cL_law 20 = .ok (.arraylength, 1) := by decide +kernel
theorem dL_law_21 : decode cL_law 21 = .ok (.bipush 6, 2) := by decide +kernel
theorem dL_law_23 : decode cL_law 23 = .ok (.isub, 1) := by decide +kernel
theorem dL_law_24 : decode cL_law 24 = .ok (.if_icmp .gt 1078, 3) := by decide +kernel
theorem dL_law_27 : decode cL_law 27 = .ok (.aload_n 0, 1) := by decide +kernel
theorem dL_law_28 : decode cL_law 28 = .ok (.iload_n 3, 1) := by decide +kernel
theorem dL_law_29 : decode cL_law 29 = .ok (.iaload, 1) := by decide +kernel
theorem dL_law_30 : decode cL_law 30 = .ok (.bipush 31, 2) := by decide +kernel
theorem dL_law_32 : decode cL_law 32 = .ok (.iand, 1) := by decide +kernel
theorem dL_law_33 : decode cL_law 33 = .ok (.tableswitch 1063 0 27 #[127, 180, 213, 246, 269, 332, 395, 418, 441, 464, 487, 530, 553, 596, 619, 642, 665, 719, 762, 785, 828, 872, 935, 958, 981, 1014, 1027, 1040], 127) := by decide +kernel
theorem dL_law_160 : decode cL_law 160 = .ok (.aload_n 1, 1) := by decide +kernel
theorem dL_law_161 : decode cL_law 161 = .ok (.aload_n 0, 1) := by decide +kernel
theorem dL_law_162 : decode cL_law 162 = .ok (.iload_n 3, 1) := by decide +kernel
theorem dL_law_163 : decode cL_law 163 = .ok (.iconst 1, 1) := by decide +kernel
theorem dL_law_164 : decode cL_law 164 = .ok (.iadd, 1) := by decide +kernel
theorem dL_law_165 : decode cL_law 165 = .ok (.iaload, 1) := by decide +kernel
theorem dL_law_166 : decode cL_law 166 = .ok (.aload_n 0, 1) := by decide +kernel
theorem dL_law_167 : decode cL_law 167 = .ok (.iload_n 3, 1) := by decide +kernel
theorem dL_law_168 : decode cL_law 168 = .ok (.iconst 2, 1) := by decide +kernel
theorem dL_law_169 : decode cL_law 169 = .ok (.iadd, 1) := by decide +kernel
theorem dL_law_170 : decode cL_law 170 = .ok (.iaload, 1) := by decide +kernel
theorem dL_law_171 : decode cL_law 171 = .ok (.aload_n 0, 1) := by decide +kernel
theorem dL_law_172 : decode cL_law 172 = .ok (.iload_n 3, 1) := by decide +kernel
theorem dL_law_173 : decode cL_law 173 = .ok (.iconst 3, 1) := by decide +kernel
theorem dL_law_174 : decode cL_law 174 = .ok (.iadd, 1) := by decide +kernel
theorem dL_law_175 : decode cL_law 175 = .ok (.iaload, 1) := by decide +kernel
theorem dL_law_176 : decode cL_law 176 = .ok (.aload_n 0, 1) := by decide +kernel
theorem dL_law_177 : decode cL_law 177 = .ok (.iload_n 3, 1) := by decide +kernel
theorem dL_law_178 : decode cL_law 178 = .ok (.iconst 4, 1) := by decide +kernel
theorem dL_law_179 : decode cL_law 179 = .ok (.iadd, 1) := by decide +kernel
theorem dL_law_180 : decode cL_law 180 = .ok (.iaload, 1) := by decide +kernel
theorem dL_law_181 : decode cL_law 181 = .ok (.invokevirtual 13, 3) := by decide +kernel
theorem dL_law_184 : decode cL_law 184 = .ok (.aload_n 2, 1) := by decide +kernel
theorem dL_law_185 : decode cL_law 185 = .ok (.aload_n 0, 1) := by decide +kernel
theorem dL_law_186 : decode cL_law 186 = .ok (.iload_n 3, 1) := by decide +kernel
theorem dL_law_187 : decode cL_law 187 = .ok (.iconst 1, 1) := by decide +kernel
theorem dL_law_188 : decode cL_law 188 = .ok (.iadd, 1) := by decide +kernel
theorem dL_law_189 : decode cL_law 189 = .ok (.iaload, 1) := by decide +kernel
theorem dL_law_190 : decode cL_law 190 = .ok (.aload_n 0, 1) := by decide +kernel
theorem dL_law_191 : decode cL_law 191 = .ok (.iload_n 3, 1) := by decide +kernel
theorem dL_law_192 : decode cL_law 192 = .ok (.iconst 2, 1) := by decide +kernel
theorem dL_law_193 : decode cL_law 193 = .ok (.iadd, 1) := by decide +kernel
theorem dL_law_194 : decode cL_law 194 = .ok (.iaload, 1) := by decide +kernel
theorem dL_law_195 : decode cL_law 195 = .ok (.aload_n 0, 1) := by decide +kernel
theorem dL_law_196 : decode cL_law 196 = .ok (.iload_n 3, 1) := by decide +kernel
theorem dL_law_197 : decode cL_law 197 = .ok (.iconst 3, 1) := by decide +kernel
theorem dL_law_198 : decode cL_law 198 = .ok (.iadd, 1) := by decide +kernel
theorem dL_law_199 : decode cL_law 199 = .ok (.iaload, 1) := by decide +kernel
theorem dL_law_200 : decode cL_law 200 = .ok (.aload_n 0, 1) := by decide +kernel
theorem dL_law_201 : decode cL_law 201 = .ok (.iload_n 3, 1) := by decide +kernel
theorem dL_law_202 : decode cL_law 202 = .ok (.iconst 4, 1) := by decide +kernel
theorem dL_law_203 : decode cL_law 203 = .ok (.iadd, 1) := by decide +kernel
theorem dL_law_204 : decode cL_law 204 = .ok (.iaload, 1) := by decide +kernel
theorem dL_law_205 : decode cL_law 205 = .ok (.invokevirtual 17, 3) := by decide +kernel
theorem dL_law_208 : decode cL_law 208 = .ok (.if_icmp .eq 888, 3) := by decide +kernel
theorem dL_law_211 : decode cL_law 211 = .ok (.iconst 0, 1) := by decide +kernel
theorem dL_law_212 : decode cL_law 212 = .ok (.ireturn, 1) := by decide +kernel
theorem dL_law_213 : decode cL_law 213 = .ok (.aload_n 1, 1) := by decide +kernel
theorem dL_law_214 : decode cL_law 214 = .ok (.aload_n 0, 1) := by decide +kernel
theorem dL_law_215 : decode cL_law 215 = .ok (.iload_n 3, 1) := by decide +kernel
theorem dL_law_216 : decode cL_law 216 = .ok (.iconst 1, 1) := by decide +kernel
theorem dL_law_217 : decode cL_law 217 = .ok (.iadd, 1) := by decide +kernel
theorem dL_law_218 : decode cL_law 218 = .ok (.iaload, 1) := by decide +kernel
theorem dL_law_219 : decode cL_law 219 = .ok (.aload_n 0, 1) := by decide +kernel
theorem dL_law_220 : decode cL_law 220 = .ok (.iload_n 3, 1) := by decide +kernel
theorem dL_law_221 : decode cL_law 221 = .ok (.iconst 2, 1) := by decide +kernel
theorem dL_law_222 : decode cL_law 222 = .ok (.iadd, 1) := by decide +kernel
theorem dL_law_223 : decode cL_law 223 = .ok (.iaload, 1) := by decide +kernel
theorem dL_law_224 : decode cL_law 224 = .ok (.invokevirtual 18, 3) := by decide +kernel
theorem dL_law_227 : decode cL_law 227 = .ok (.aload_n 2, 1) := by decide +kernel
theorem dL_law_228 : decode cL_law 228 = .ok (.aload_n 0, 1) := by decide +kernel
theorem dL_law_229 : decode cL_law 229 = .ok (.iload_n 3, 1) := by decide +kernel
theorem dL_law_230 : decode cL_law 230 = .ok (.iconst 1, 1) := by decide +kernel
theorem dL_law_231 : decode cL_law 231 = .ok (.iadd, 1) := by decide +kernel
theorem dL_law_232 : decode cL_law 232 = .ok (.iaload, 1) := by decide +kernel
theorem dL_law_233 : decode cL_law 233 = .ok (.aload_n 0, 1) := by decide +kernel
theorem dL_law_234 : decode cL_law 234 = .ok (.iload_n 3, 1) := by decide +kernel
theorem dL_law_235 : decode cL_law 235 = .ok (.iconst 2, 1) := by decide +kernel
theorem dL_law_236 : decode cL_law 236 = .ok (.iadd, 1) := by decide +kernel
theorem dL_law_237 : decode cL_law 237 = .ok (.iaload, 1) := by decide +kernel
theorem dL_law_238 : decode cL_law 238 = .ok (.invokevirtual 22, 3) := by decide +kernel
theorem dL_law_241 : decode cL_law 241 = .ok (.if_icmp .eq 855, 3) := by decide +kernel
theorem dL_law_244 : decode cL_law 244 = .ok (.iconst 0, 1) := by decide +kernel
theorem dL_law_245 : decode cL_law 245 = .ok (.ireturn, 1) := by decide +kernel
theorem dL_law_246 : decode cL_law 246 = .ok (.aload_n 1, 1) := by decide +kernel
theorem dL_law_247 : decode cL_law 247 = .ok (.aload_n 0, 1) := by decide +kernel
theorem dL_law_248 : decode cL_law 248 = .ok (.iload_n 3, 1) := by decide +kernel
theorem dL_law_249 : decode cL_law 249 = .ok (.iconst 1, 1) := by decide +kernel
theorem dL_law_250 : decode cL_law 250 = .ok (.iadd, 1) := by decide +kernel
theorem dL_law_251 : decode cL_law 251 = .ok (.iaload, 1) := by decide +kernel
theorem dL_law_252 : decode cL_law 252 = .ok (.aload_n 0, 1) := by decide +kernel
theorem dL_law_253 : decode cL_law 253 = .ok (.iload_n 3, 1) := by decide +kernel
theorem dL_law_254 : decode cL_law 254 = .ok (.iconst 2, 1) := by decide +kernel
theorem dL_law_255 : decode cL_law 255 = .ok (.iadd, 1) := by decide +kernel
theorem dL_law_256 : decode cL_law 256 = .ok (.iaload, 1) := by decide +kernel
theorem dL_law_257 : decode cL_law 257 = .ok (.invokevirtual 23, 3) := by decide +kernel
theorem dL_law_260 : decode cL_law 260 = .ok (.aload_n 2, 1) := by decide +kernel
theorem dL_law_261 : decode cL_law 261 = .ok (.aload_n 0, 1) := by decide +kernel
theorem dL_law_262 : decode cL_law 262 = .ok (.iload_n 3, 1) := by decide +kernel
theorem dL_law_263 : decode cL_law 263 = .ok (.iconst 1, 1) := by decide +kernel
theorem dL_law_264 : decode cL_law 264 = .ok (.iadd, 1) := by decide +kernel
theorem dL_law_265 : decode cL_law 265 = .ok (.iaload, 1) := by decide +kernel
theorem dL_law_266 : decode cL_law 266 = .ok (.aload_n 0, 1) := by decide +kernel
theorem dL_law_267 : decode cL_law 267 = .ok (.iload_n 3, 1) := by decide +kernel
theorem dL_law_268 : decode cL_law 268 = .ok (.iconst 2, 1) := by decide +kernel
theorem dL_law_269 : decode cL_law 269 = .ok (.iadd, 1) := by decide +kernel
theorem dL_law_270 : decode cL_law 270 = .ok (.iaload, 1) := by decide +kernel
theorem dL_law_271 : decode cL_law 271 = .ok (.invokevirtual 26, 3) := by decide +kernel
theorem dL_law_274 : decode cL_law 274 = .ok (.if_icmp .eq 822, 3) := by decide +kernel
theorem dL_law_277 : decode cL_law 277 = .ok (.iconst 0, 1) := by decide +kernel
theorem dL_law_278 : decode cL_law 278 = .ok (.ireturn, 1) := by decide +kernel
theorem dL_law_279 : decode cL_law 279 = .ok (.aload_n 1, 1) := by decide +kernel
theorem dL_law_280 : decode cL_law 280 = .ok (.aload_n 0, 1) := by decide +kernel
theorem dL_law_281 : decode cL_law 281 = .ok (.iload_n 3, 1) := by decide +kernel
theorem dL_law_282 : decode cL_law 282 = .ok (.iconst 1, 1) := by decide +kernel
theorem dL_law_283 : decode cL_law 283 = .ok (.iadd, 1) := by decide +kernel
theorem dL_law_284 : decode cL_law 284 = .ok (.iaload, 1) := by decide +kernel
theorem dL_law_285 : decode cL_law 285 = .ok (.invokevirtual 27, 3) := by decide +kernel
theorem dL_law_288 : decode cL_law 288 = .ok (.aload_n 2, 1) := by decide +kernel
theorem dL_law_289 : decode cL_law 289 = .ok (.aload_n 0, 1) := by decide +kernel
theorem dL_law_290 : decode cL_law 290 = .ok (.iload_n 3, 1) := by decide +kernel
theorem dL_law_291 : decode cL_law 291 = .ok (.iconst 1, 1) := by decide +kernel
theorem dL_law_292 : decode cL_law 292 = .ok (.iadd, 1) := by decide +kernel
theorem dL_law_293 : decode cL_law 293 = .ok (.iaload, 1) := by decide +kernel
theorem dL_law_294 : decode cL_law 294 = .ok (.invokevirtual 31, 3) := by decide +kernel
theorem dL_law_297 : decode cL_law 297 = .ok (.if_icmp .eq 799, 3) := by decide +kernel
theorem dL_law_300 : decode cL_law 300 = .ok (.iconst 0, 1) := by decide +kernel
theorem dL_law_301 : decode cL_law 301 = .ok (.ireturn, 1) := by decide +kernel
theorem dL_law_302 : decode cL_law 302 = .ok (.aload_n 1, 1) := by decide +kernel
theorem dL_law_303 : decode cL_law 303 = .ok (.aload_n 0, 1) := by decide +kernel
theorem dL_law_304 : decode cL_law 304 = .ok (.iload_n 3, 1) := by decide +kernel
theorem dL_law_305 : decode cL_law 305 = .ok (.iconst 1, 1) := by decide +kernel
theorem dL_law_306 : decode cL_law 306 = .ok (.iadd, 1) := by decide +kernel
theorem dL_law_307 : decode cL_law 307 = .ok (.iaload, 1) := by decide +kernel
theorem dL_law_308 : decode cL_law 308 = .ok (.aload_n 0, 1) := by decide +kernel
theorem dL_law_309 : decode cL_law 309 = .ok (.iload_n 3, 1) := by decide +kernel
theorem dL_law_310 : decode cL_law 310 = .ok (.iconst 2, 1) := by decide +kernel
theorem dL_law_311 : decode cL_law 311 = .ok (.iadd, 1) := by decide +kernel
theorem dL_law_312 : decode cL_law 312 = .ok (.iaload, 1) := by decide +kernel
theorem dL_law_313 : decode cL_law 313 = .ok (.i2l, 1) := by decide +kernel
theorem dL_law_314 : decode cL_law 314 = .ok (.bipush 32, 2) := by decide +kernel
theorem dL_law_316 : decode cL_law 316 = .ok (.lshl, 1) := by decide +kernel
theorem dL_law_317 : decode cL_law 317 = .ok (.aload_n 0, 1) := by decide +kernel
theorem dL_law_318 : decode cL_law 318 = .ok (.iload_n 3, 1) := by decide +kernel
theorem dL_law_319 : decode cL_law 319 = .ok (.iconst 3, 1) := by decide +kernel
theorem dL_law_320 : decode cL_law 320 = .ok (.iadd, 1) := by decide +kernel
theorem dL_law_321 : decode cL_law 321 = .ok (.iaload, 1) := by decide +kernel
theorem dL_law_322 : decode cL_law 322 = .ok (.i2l, 1) := by decide +kernel
theorem dL_law_323 : decode cL_law 323 = .ok (.ldc2_w 32, 3) := by decide +kernel
theorem dL_law_326 : decode cL_law 326 = .ok (.land, 1) := by decide +kernel
theorem dL_law_327 : decode cL_law 327 = .ok (.lor, 1) := by decide +kernel
theorem dL_law_328 : decode cL_law 328 = .ok (.invokevirtual 34, 3) := by decide +kernel
theorem dL_law_331 : decode cL_law 331 = .ok (.aload_n 2, 1) := by decide +kernel
theorem dL_law_332 : decode cL_law 332 = .ok (.aload_n 0, 1) := by decide +kernel
theorem dL_law_333 : decode cL_law 333 = .ok (.iload_n 3, 1) := by decide +kernel
theorem dL_law_334 : decode cL_law 334 = .ok (.iconst 1, 1) := by decide +kernel
theorem dL_law_335 : decode cL_law 335 = .ok (.iadd, 1) := by decide +kernel
theorem dL_law_336 : decode cL_law 336 = .ok (.iaload, 1) := by decide +kernel
theorem dL_law_337 : decode cL_law 337 = .ok (.aload_n 0, 1) := by decide +kernel
theorem dL_law_338 : decode cL_law 338 = .ok (.iload_n 3, 1) := by decide +kernel
theorem dL_law_339 : decode cL_law 339 = .ok (.iconst 2, 1) := by decide +kernel
theorem dL_law_340 : decode cL_law 340 = .ok (.iadd, 1) := by decide +kernel
theorem dL_law_341 : decode cL_law 341 = .ok (.iaload, 1) := by decide +kernel
theorem dL_law_342 : decode cL_law 342 = .ok (.i2l, 1) := by decide +kernel
theorem dL_law_343 : decode cL_law 343 = .ok (.bipush 32, 2) := by decide +kernel
theorem dL_law_345 : decode cL_law 345 = .ok (.lshl, 1) := by decide +kernel
theorem dL_law_346 : decode cL_law 346 = .ok (.aload_n 0, 1) := by decide +kernel
theorem dL_law_347 : decode cL_law 347 = .ok (.iload_n 3, 1) := by decide +kernel
theorem dL_law_348 : decode cL_law 348 = .ok (.iconst 3, 1) := by decide +kernel
theorem dL_law_349 : decode cL_law 349 = .ok (.iadd, 1) := by decide +kernel
theorem dL_law_350 : decode cL_law 350 = .ok (.iaload, 1) := by decide +kernel
theorem dL_law_351 : decode cL_law 351 = .ok (.i2l, 1) := by decide +kernel
theorem dL_law_352 : decode cL_law 352 = .ok (.ldc2_w 32, 3) := by decide +kernel
theorem dL_law_355 : decode cL_law 355 = .ok (.land, 1) := by decide +kernel
theorem dL_law_356 : decode cL_law 356 = .ok (.lor, 1) := by decide +kernel
theorem dL_law_357 : decode cL_law 357 = .ok (.invokevirtual 38, 3) := by decide +kernel
theorem dL_law_360 : decode cL_law 360 = .ok (.if_icmp .eq 736, 3) := by decide +kernel
theorem dL_law_363 : decode cL_law 363 = .ok (.iconst 0, 1) := by decide +kernel
theorem dL_law_364 : decode cL_law 364 = .ok (.ireturn, 1) := by decide +kernel
theorem dL_law_365 : decode cL_law 365 = .ok (.aload_n 1, 1) := by decide +kernel
theorem dL_law_366 : decode cL_law 366 = .ok (.aload_n 0, 1) := by decide +kernel
theorem dL_law_367 : decode cL_law 367 = .ok (.iload_n 3, 1) := by decide +kernel
theorem dL_law_368 : decode cL_law 368 = .ok (.iconst 1, 1) := by decide +kernel
theorem dL_law_369 : decode cL_law 369 = .ok (.iadd, 1) := by decide +kernel
theorem dL_law_370 : decode cL_law 370 = .ok (.iaload, 1) := by decide +kernel
theorem dL_law_371 : decode cL_law 371 = .ok (.aload_n 0, 1) := by decide +kernel
theorem dL_law_372 : decode cL_law 372 = .ok (.iload_n 3, 1) := by decide +kernel
theorem dL_law_373 : decode cL_law 373 = .ok (.iconst 2, 1) := by decide +kernel
theorem dL_law_374 : decode cL_law 374 = .ok (.iadd, 1) := by decide +kernel
theorem dL_law_375 : decode cL_law 375 = .ok (.iaload, 1) := by decide +kernel
theorem dL_law_376 : decode cL_law 376 = .ok (.aload_n 0, 1) := by decide +kernel
theorem dL_law_377 : decode cL_law 377 = .ok (.iload_n 3, 1) := by decide +kernel
theorem dL_law_378 : decode cL_law 378 = .ok (.iconst 3, 1) := by decide +kernel
theorem dL_law_379 : decode cL_law 379 = .ok (.iadd, 1) := by decide +kernel
theorem dL_law_380 : decode cL_law 380 = .ok (.iaload, 1) := by decide +kernel
theorem dL_law_381 : decode cL_law 381 = .ok (.aload_n 0, 1) := by decide +kernel
theorem dL_law_382 : decode cL_law 382 = .ok (.iload_n 3, 1) := by decide +kernel
theorem dL_law_383 : decode cL_law 383 = .ok (.iconst 4, 1) := by decide +kernel
theorem dL_law_384 : decode cL_law 384 = .ok (.iadd, 1) := by decide +kernel
theorem dL_law_385 : decode cL_law 385 = .ok (.iaload, 1) := by decide +kernel
theorem dL_law_386 : decode cL_law 386 = .ok (.aload_n 0, 1) := by decide +kernel
theorem dL_law_387 : decode cL_law 387 = .ok (.iload_n 3, 1) := by decide +kernel
theorem dL_law_388 : decode cL_law 388 = .ok (.iconst 5, 1) := by decide +kernel
theorem dL_law_389 : decode cL_law 389 = .ok (.iadd, 1) := by decide +kernel
theorem dL_law_390 : decode cL_law 390 = .ok (.iaload, 1) := by decide +kernel
theorem dL_law_391 : decode cL_law 391 = .ok (.invokevirtual 39, 3) := by decide +kernel
theorem dL_law_394 : decode cL_law 394 = .ok (.aload_n 2, 1) := by decide +kernel
theorem dL_law_395 : decode cL_law 395 = .ok (.aload_n 0, 1) := by decide +kernel
theorem dL_law_396 : decode cL_law 396 = .ok (.iload_n 3, 1) := by decide +kernel
theorem dL_law_397 : decode cL_law 397 = .ok (.iconst 1, 1) := by decide +kernel
theorem dL_law_398 : decode cL_law 398 = .ok (.iadd, 1) := by decide +kernel
theorem dL_law_399 : decode cL_law 399 = .ok (.iaload, 1) := by decide +kernel
theorem dL_law_400 : decode cL_law 400 = .ok (.aload_n 0, 1) := by decide +kernel
theorem dL_law_401 : decode cL_law 401 = .ok (.iload_n 3, 1) := by decide +kernel
theorem dL_law_402 : decode cL_law 402 = .ok (.iconst 2, 1) := by decide +kernel
theorem dL_law_403 : decode cL_law 403 = .ok (.iadd, 1) := by decide +kernel
theorem dL_law_404 : decode cL_law 404 = .ok (.iaload, 1) := by decide +kernel
theorem dL_law_405 : decode cL_law 405 = .ok (.aload_n 0, 1) := by decide +kernel
theorem dL_law_406 : decode cL_law 406 = .ok (.iload_n 3, 1) := by decide +kernel
theorem dL_law_407 : decode cL_law 407 = .ok (.iconst 3, 1) := by decide +kernel
theorem dL_law_408 : decode cL_law 408 = .ok (.iadd, 1) := by decide +kernel
theorem dL_law_409 : decode cL_law 409 = .ok (.iaload, 1) := by decide +kernel
theorem dL_law_410 : decode cL_law 410 = .ok (.aload_n 0, 1) := by decide +kernel
theorem dL_law_411 : decode cL_law 411 = .ok (.iload_n 3, 1) := by decide +kernel
theorem dL_law_412 : decode cL_law 412 = .ok (.iconst 4, 1) := by decide +kernel
theorem dL_law_413 : decode cL_law 413 = .ok (.iadd, 1) := by decide +kernel
theorem dL_law_414 : decode cL_law 414 = .ok (.iaload, 1) := by decide +kernel
theorem dL_law_415 : decode cL_law 415 = .ok (.aload_n 0, 1) := by decide +kernel
theorem dL_law_416 : decode cL_law 416 = .ok (.iload_n 3, 1) := by decide +kernel
theorem dL_law_417 : decode cL_law 417 = .ok (.iconst 5, 1) := by decide +kernel
theorem dL_law_418 : decode cL_law 418 = .ok (.iadd, 1) := by decide +kernel
theorem dL_law_419 : decode cL_law 419 = .ok (.iaload, 1) := by decide +kernel
theorem dL_law_420 : decode cL_law 420 = .ok (.invokevirtual 43, 3) := by decide +kernel
theorem dL_law_423 : decode cL_law 423 = .ok (.if_icmp .eq 673, 3) := by decide +kernel
theorem dL_law_426 : decode cL_law 426 = .ok (.iconst 0, 1) := by decide +kernel
theorem dL_law_427 : decode cL_law 427 = .ok (.ireturn, 1) := by decide +kernel
theorem dL_law_428 : decode cL_law 428 = .ok (.aload_n 1, 1) := by decide +kernel
theorem dL_law_429 : decode cL_law 429 = .ok (.aload_n 0, 1) := by decide +kernel
theorem dL_law_430 : decode cL_law 430 = .ok (.iload_n 3, 1) := by decide +kernel
theorem dL_law_431 : decode cL_law 431 = .ok (.iconst 1, 1) := by decide +kernel
theorem dL_law_432 : decode cL_law 432 = .ok (.iadd, 1) := by decide +kernel
theorem dL_law_433 : decode cL_law 433 = .ok (.iaload, 1) := by decide +kernel
theorem dL_law_434 : decode cL_law 434 = .ok (.invokevirtual 44, 3) := by decide +kernel
theorem dL_law_437 : decode cL_law 437 = .ok (.aload_n 2, 1) := by decide +kernel
theorem dL_law_438 : decode cL_law 438 = .ok (.aload_n 0, 1) := by decide +kernel
theorem dL_law_439 : decode cL_law 439 = .ok (.iload_n 3, 1) := by decide +kernel
theorem dL_law_440 : decode cL_law 440 = .ok (.iconst 1, 1) := by decide +kernel
theorem dL_law_441 : decode cL_law 441 = .ok (.iadd, 1) := by decide +kernel
theorem dL_law_442 : decode cL_law 442 = .ok (.iaload, 1) := by decide +kernel
theorem dL_law_443 : decode cL_law 443 = .ok (.invokevirtual 47, 3) := by decide +kernel
theorem dL_law_446 : decode cL_law 446 = .ok (.if_icmp .eq 650, 3) := by decide +kernel
theorem dL_law_449 : decode cL_law 449 = .ok (.iconst 0, 1) := by decide +kernel
theorem dL_law_450 : decode cL_law 450 = .ok (.ireturn, 1) := by decide +kernel
theorem dL_law_451 : decode cL_law 451 = .ok (.aload_n 1, 1) := by decide +kernel
theorem dL_law_452 : decode cL_law 452 = .ok (.aload_n 0, 1) := by decide +kernel
theorem dL_law_453 : decode cL_law 453 = .ok (.iload_n 3, 1) := by decide +kernel
theorem dL_law_454 : decode cL_law 454 = .ok (.iconst 1, 1) := by decide +kernel
theorem dL_law_455 : decode cL_law 455 = .ok (.iadd, 1) := by decide +kernel
theorem dL_law_456 : decode cL_law 456 = .ok (.iaload, 1) := by decide +kernel
theorem dL_law_457 : decode cL_law 457 = .ok (.invokevirtual 48, 3) := by decide +kernel
theorem dL_law_460 : decode cL_law 460 = .ok (.aload_n 2, 1) := by decide +kernel
theorem dL_law_461 : decode cL_law 461 = .ok (.aload_n 0, 1) := by decide +kernel
theorem dL_law_462 : decode cL_law 462 = .ok (.iload_n 3, 1) := by decide +kernel
theorem dL_law_463 : decode cL_law 463 = .ok (.iconst 1, 1) := by decide +kernel
theorem dL_law_464 : decode cL_law 464 = .ok (.iadd, 1) := by decide +kernel
theorem dL_law_465 : decode cL_law 465 = .ok (.iaload, 1) := by decide +kernel
theorem dL_law_466 : decode cL_law 466 = .ok (.invokevirtual 51, 3) := by decide +kernel
theorem dL_law_469 : decode cL_law 469 = .ok (.if_icmp .eq 627, 3) := by decide +kernel
theorem dL_law_472 : decode cL_law 472 = .ok (.iconst 0, 1) := by decide +kernel
theorem dL_law_473 : decode cL_law 473 = .ok (.ireturn, 1) := by decide +kernel
theorem dL_law_474 : decode cL_law 474 = .ok (.aload_n 1, 1) := by decide +kernel
theorem dL_law_475 : decode cL_law 475 = .ok (.aload_n 0, 1) := by decide +kernel
theorem dL_law_476 : decode cL_law 476 = .ok (.iload_n 3, 1) := by decide +kernel
theorem dL_law_477 : decode cL_law 477 = .ok (.iconst 1, 1) := by decide +kernel
theorem dL_law_478 : decode cL_law 478 = .ok (.iadd, 1) := by decide +kernel
theorem dL_law_479 : decode cL_law 479 = .ok (.iaload, 1) := by decide +kernel
theorem dL_law_480 : decode cL_law 480 = .ok (.invokevirtual 52, 3) := by decide +kernel
theorem dL_law_483 : decode cL_law 483 = .ok (.aload_n 2, 1) := by decide +kernel
theorem dL_law_484 : decode cL_law 484 = .ok (.aload_n 0, 1) := by decide +kernel
theorem dL_law_485 : decode cL_law 485 = .ok (.iload_n 3, 1) := by decide +kernel
theorem dL_law_486 : decode cL_law 486 = .ok (.iconst 1, 1) := by decide +kernel
theorem dL_law_487 : decode cL_law 487 = .ok (.iadd, 1) := by decide +kernel
theorem dL_law_488 : decode cL_law 488 = .ok (.iaload, 1) := by decide +kernel
theorem dL_law_489 : decode cL_law 489 = .ok (.invokevirtual 55, 3) := by decide +kernel
theorem dL_law_492 : decode cL_law 492 = .ok (.if_icmp .eq 604, 3) := by decide +kernel
theorem dL_law_495 : decode cL_law 495 = .ok (.iconst 0, 1) := by decide +kernel
theorem dL_law_496 : decode cL_law 496 = .ok (.ireturn, 1) := by decide +kernel
theorem dL_law_497 : decode cL_law 497 = .ok (.aload_n 1, 1) := by decide +kernel
theorem dL_law_498 : decode cL_law 498 = .ok (.aload_n 0, 1) := by decide +kernel
theorem dL_law_499 : decode cL_law 499 = .ok (.iload_n 3, 1) := by decide +kernel
theorem dL_law_500 : decode cL_law 500 = .ok (.iconst 1, 1) := by decide +kernel
theorem dL_law_501 : decode cL_law 501 = .ok (.iadd, 1) := by decide +kernel
theorem dL_law_502 : decode cL_law 502 = .ok (.iaload, 1) := by decide +kernel
theorem dL_law_503 : decode cL_law 503 = .ok (.invokevirtual 56, 3) := by decide +kernel
theorem dL_law_506 : decode cL_law 506 = .ok (.aload_n 2, 1) := by decide +kernel
theorem dL_law_507 : decode cL_law 507 = .ok (.aload_n 0, 1) := by decide +kernel
theorem dL_law_508 : decode cL_law 508 = .ok (.iload_n 3, 1) := by decide +kernel
theorem dL_law_509 : decode cL_law 509 = .ok (.iconst 1, 1) := by decide +kernel
theorem dL_law_510 : decode cL_law 510 = .ok (.iadd, 1) := by decide +kernel
theorem dL_law_511 : decode cL_law 511 = .ok (.iaload, 1) := by decide +kernel
theorem dL_law_512 : decode cL_law 512 = .ok (.invokevirtual 59, 3) := by decide +kernel
theorem dL_law_515 : decode cL_law 515 = .ok (.if_icmp .eq 581, 3) := by decide +kernel
theorem dL_law_518 : decode cL_law 518 = .ok (.iconst 0, 1) := by decide +kernel
theorem dL_law_519 : decode cL_law 519 = .ok (.ireturn, 1) := by decide +kernel
theorem dL_law_520 : decode cL_law 520 = .ok (.aload_n 1, 1) := by decide +kernel
theorem dL_law_521 : decode cL_law 521 = .ok (.aload_n 0, 1) := by decide +kernel
theorem dL_law_522 : decode cL_law 522 = .ok (.iload_n 3, 1) := by decide +kernel
theorem dL_law_523 : decode cL_law 523 = .ok (.iconst 1, 1) := by decide +kernel
theorem dL_law_524 : decode cL_law 524 = .ok (.iadd, 1) := by decide +kernel
theorem dL_law_525 : decode cL_law 525 = .ok (.iaload, 1) := by decide +kernel
theorem dL_law_526 : decode cL_law 526 = .ok (.aload_n 0, 1) := by decide +kernel
theorem dL_law_527 : decode cL_law 527 = .ok (.iload_n 3, 1) := by decide +kernel
theorem dL_law_528 : decode cL_law 528 = .ok (.iconst 2, 1) := by decide +kernel
theorem dL_law_529 : decode cL_law 529 = .ok (.iadd, 1) := by decide +kernel
theorem dL_law_530 : decode cL_law 530 = .ok (.iaload, 1) := by decide +kernel
theorem dL_law_531 : decode cL_law 531 = .ok (.aload_n 0, 1) := by decide +kernel
theorem dL_law_532 : decode cL_law 532 = .ok (.iload_n 3, 1) := by decide +kernel
theorem dL_law_533 : decode cL_law 533 = .ok (.iconst 3, 1) := by decide +kernel
theorem dL_law_534 : decode cL_law 534 = .ok (.iadd, 1) := by decide +kernel
theorem dL_law_535 : decode cL_law 535 = .ok (.iaload, 1) := by decide +kernel
theorem dL_law_536 : decode cL_law 536 = .ok (.invokevirtual 60, 3) := by decide +kernel
theorem dL_law_539 : decode cL_law 539 = .ok (.aload_n 2, 1) := by decide +kernel
theorem dL_law_540 : decode cL_law 540 = .ok (.aload_n 0, 1) := by decide +kernel
theorem dL_law_541 : decode cL_law 541 = .ok (.iload_n 3, 1) := by decide +kernel
theorem dL_law_542 : decode cL_law 542 = .ok (.iconst 1, 1) := by decide +kernel
theorem dL_law_543 : decode cL_law 543 = .ok (.iadd, 1) := by decide +kernel
theorem dL_law_544 : decode cL_law 544 = .ok (.iaload, 1) := by decide +kernel
theorem dL_law_545 : decode cL_law 545 = .ok (.aload_n 0, 1) := by decide +kernel
theorem dL_law_546 : decode cL_law 546 = .ok (.iload_n 3, 1) := by decide +kernel
theorem dL_law_547 : decode cL_law 547 = .ok (.iconst 2, 1) := by decide +kernel
theorem dL_law_548 : decode cL_law 548 = .ok (.iadd, 1) := by decide +kernel
theorem dL_law_549 : decode cL_law 549 = .ok (.iaload, 1) := by decide +kernel
theorem dL_law_550 : decode cL_law 550 = .ok (.aload_n 0, 1) := by decide +kernel
theorem dL_law_551 : decode cL_law 551 = .ok (.iload_n 3, 1) := by decide +kernel
theorem dL_law_552 : decode cL_law 552 = .ok (.iconst 3, 1) := by decide +kernel
theorem dL_law_553 : decode cL_law 553 = .ok (.iadd, 1) := by decide +kernel
theorem dL_law_554 : decode cL_law 554 = .ok (.iaload, 1) := by decide +kernel
theorem dL_law_555 : decode cL_law 555 = .ok (.invokevirtual 64, 3) := by decide +kernel
theorem dL_law_558 : decode cL_law 558 = .ok (.if_icmp .eq 538, 3) := by decide +kernel
theorem dL_law_561 : decode cL_law 561 = .ok (.iconst 0, 1) := by decide +kernel
theorem dL_law_562 : decode cL_law 562 = .ok (.ireturn, 1) := by decide +kernel
theorem dL_law_563 : decode cL_law 563 = .ok (.aload_n 1, 1) := by decide +kernel
theorem dL_law_564 : decode cL_law 564 = .ok (.aload_n 0, 1) := by decide +kernel
theorem dL_law_565 : decode cL_law 565 = .ok (.iload_n 3, 1) := by decide +kernel
theorem dL_law_566 : decode cL_law 566 = .ok (.iconst 1, 1) := by decide +kernel
theorem dL_law_567 : decode cL_law 567 = .ok (.iadd, 1) := by decide +kernel
theorem dL_law_568 : decode cL_law 568 = .ok (.iaload, 1) := by decide +kernel
theorem dL_law_569 : decode cL_law 569 = .ok (.invokevirtual 65, 3) := by decide +kernel
theorem dL_law_572 : decode cL_law 572 = .ok (.aload_n 2, 1) := by decide +kernel
theorem dL_law_573 : decode cL_law 573 = .ok (.aload_n 0, 1) := by decide +kernel
theorem dL_law_574 : decode cL_law 574 = .ok (.iload_n 3, 1) := by decide +kernel
theorem dL_law_575 : decode cL_law 575 = .ok (.iconst 1, 1) := by decide +kernel
theorem dL_law_576 : decode cL_law 576 = .ok (.iadd, 1) := by decide +kernel
theorem dL_law_577 : decode cL_law 577 = .ok (.iaload, 1) := by decide +kernel
theorem dL_law_578 : decode cL_law 578 = .ok (.invokevirtual 68, 3) := by decide +kernel
theorem dL_law_581 : decode cL_law 581 = .ok (.if_icmp .eq 515, 3) := by decide +kernel
theorem dL_law_584 : decode cL_law 584 = .ok (.iconst 0, 1) := by decide +kernel
theorem dL_law_585 : decode cL_law 585 = .ok (.ireturn, 1) := by decide +kernel
theorem dL_law_586 : decode cL_law 586 = .ok (.aload_n 1, 1) := by decide +kernel
theorem dL_law_587 : decode cL_law 587 = .ok (.aload_n 0, 1) := by decide +kernel
theorem dL_law_588 : decode cL_law 588 = .ok (.iload_n 3, 1) := by decide +kernel
theorem dL_law_589 : decode cL_law 589 = .ok (.iconst 1, 1) := by decide +kernel
theorem dL_law_590 : decode cL_law 590 = .ok (.iadd, 1) := by decide +kernel
theorem dL_law_591 : decode cL_law 591 = .ok (.iaload, 1) := by decide +kernel
theorem dL_law_592 : decode cL_law 592 = .ok (.aload_n 0, 1) := by decide +kernel
theorem dL_law_593 : decode cL_law 593 = .ok (.iload_n 3, 1) := by decide +kernel
theorem dL_law_594 : decode cL_law 594 = .ok (.iconst 2, 1) := by decide +kernel
theorem dL_law_595 : decode cL_law 595 = .ok (.iadd, 1) := by decide +kernel
theorem dL_law_596 : decode cL_law 596 = .ok (.iaload, 1) := by decide +kernel
theorem dL_law_597 : decode cL_law 597 = .ok (.aload_n 0, 1) := by decide +kernel
theorem dL_law_598 : decode cL_law 598 = .ok (.iload_n 3, 1) := by decide +kernel
theorem dL_law_599 : decode cL_law 599 = .ok (.iconst 3, 1) := by decide +kernel
theorem dL_law_600 : decode cL_law 600 = .ok (.iadd, 1) := by decide +kernel
theorem dL_law_601 : decode cL_law 601 = .ok (.iaload, 1) := by decide +kernel
theorem dL_law_602 : decode cL_law 602 = .ok (.invokevirtual 69, 3) := by decide +kernel
theorem dL_law_605 : decode cL_law 605 = .ok (.aload_n 2, 1) := by decide +kernel
theorem dL_law_606 : decode cL_law 606 = .ok (.aload_n 0, 1) := by decide +kernel
theorem dL_law_607 : decode cL_law 607 = .ok (.iload_n 3, 1) := by decide +kernel
theorem dL_law_608 : decode cL_law 608 = .ok (.iconst 1, 1) := by decide +kernel
theorem dL_law_609 : decode cL_law 609 = .ok (.iadd, 1) := by decide +kernel
theorem dL_law_610 : decode cL_law 610 = .ok (.iaload, 1) := by decide +kernel
theorem dL_law_611 : decode cL_law 611 = .ok (.aload_n 0, 1) := by decide +kernel
theorem dL_law_612 : decode cL_law 612 = .ok (.iload_n 3, 1) := by decide +kernel
theorem dL_law_613 : decode cL_law 613 = .ok (.iconst 2, 1) := by decide +kernel
theorem dL_law_614 : decode cL_law 614 = .ok (.iadd, 1) := by decide +kernel
theorem dL_law_615 : decode cL_law 615 = .ok (.iaload, 1) := by decide +kernel
theorem dL_law_616 : decode cL_law 616 = .ok (.aload_n 0, 1) := by decide +kernel
theorem dL_law_617 : decode cL_law 617 = .ok (.iload_n 3, 1) := by decide +kernel
theorem dL_law_618 : decode cL_law 618 = .ok (.iconst 3, 1) := by decide +kernel
theorem dL_law_619 : decode cL_law 619 = .ok (.iadd, 1) := by decide +kernel
theorem dL_law_620 : decode cL_law 620 = .ok (.iaload, 1) := by decide +kernel
theorem dL_law_621 : decode cL_law 621 = .ok (.invokevirtual 72, 3) := by decide +kernel
theorem dL_law_624 : decode cL_law 624 = .ok (.if_icmp .eq 472, 3) := by decide +kernel
theorem dL_law_627 : decode cL_law 627 = .ok (.iconst 0, 1) := by decide +kernel
theorem dL_law_628 : decode cL_law 628 = .ok (.ireturn, 1) := by decide +kernel
theorem dL_law_629 : decode cL_law 629 = .ok (.aload_n 1, 1) := by decide +kernel
theorem dL_law_630 : decode cL_law 630 = .ok (.aload_n 0, 1) := by decide +kernel
theorem dL_law_631 : decode cL_law 631 = .ok (.iload_n 3, 1) := by decide +kernel
theorem dL_law_632 : decode cL_law 632 = .ok (.iconst 1, 1) := by decide +kernel
theorem dL_law_633 : decode cL_law 633 = .ok (.iadd, 1) := by decide +kernel
theorem dL_law_634 : decode cL_law 634 = .ok (.iaload, 1) := by decide +kernel
theorem dL_law_635 : decode cL_law 635 = .ok (.invokevirtual 73, 3) := by decide +kernel
theorem dL_law_638 : decode cL_law 638 = .ok (.aload_n 2, 1) := by decide +kernel
theorem dL_law_639 : decode cL_law 639 = .ok (.aload_n 0, 1) := by decide +kernel
theorem dL_law_640 : decode cL_law 640 = .ok (.iload_n 3, 1) := by decide +kernel
theorem dL_law_641 : decode cL_law 641 = .ok (.iconst 1, 1) := by decide +kernel
theorem dL_law_642 : decode cL_law 642 = .ok (.iadd, 1) := by decide +kernel
theorem dL_law_643 : decode cL_law 643 = .ok (.iaload, 1) := by decide +kernel
theorem dL_law_644 : decode cL_law 644 = .ok (.invokevirtual 76, 3) := by decide +kernel
theorem dL_law_647 : decode cL_law 647 = .ok (.if_icmp .eq 449, 3) := by decide +kernel
theorem dL_law_650 : decode cL_law 650 = .ok (.iconst 0, 1) := by decide +kernel
theorem dL_law_651 : decode cL_law 651 = .ok (.ireturn, 1) := by decide +kernel
theorem dL_law_652 : decode cL_law 652 = .ok (.aload_n 1, 1) := by decide +kernel
theorem dL_law_653 : decode cL_law 653 = .ok (.aload_n 0, 1) := by decide +kernel
theorem dL_law_654 : decode cL_law 654 = .ok (.iload_n 3, 1) := by decide +kernel
theorem dL_law_655 : decode cL_law 655 = .ok (.iconst 1, 1) := by decide +kernel
theorem dL_law_656 : decode cL_law 656 = .ok (.iadd, 1) := by decide +kernel
theorem dL_law_657 : decode cL_law 657 = .ok (.iaload, 1) := by decide +kernel
theorem dL_law_658 : decode cL_law 658 = .ok (.invokevirtual 77, 3) := by decide +kernel
theorem dL_law_661 : decode cL_law 661 = .ok (.aload_n 2, 1) := by decide +kernel
theorem dL_law_662 : decode cL_law 662 = .ok (.aload_n 0, 1) := by decide +kernel
theorem dL_law_663 : decode cL_law 663 = .ok (.iload_n 3, 1) := by decide +kernel
theorem dL_law_664 : decode cL_law 664 = .ok (.iconst 1, 1) := by decide +kernel
theorem dL_law_665 : decode cL_law 665 = .ok (.iadd, 1) := by decide +kernel
theorem dL_law_666 : decode cL_law 666 = .ok (.iaload, 1) := by decide +kernel
theorem dL_law_667 : decode cL_law 667 = .ok (.invokevirtual 80, 3) := by decide +kernel
theorem dL_law_670 : decode cL_law 670 = .ok (.if_icmp .eq 426, 3) := by decide +kernel
theorem dL_law_673 : decode cL_law 673 = .ok (.iconst 0, 1) := by decide +kernel
theorem dL_law_674 : decode cL_law 674 = .ok (.ireturn, 1) := by decide +kernel
theorem dL_law_675 : decode cL_law 675 = .ok (.aload_n 1, 1) := by decide +kernel
theorem dL_law_676 : decode cL_law 676 = .ok (.aload_n 0, 1) := by decide +kernel
theorem dL_law_677 : decode cL_law 677 = .ok (.iload_n 3, 1) := by decide +kernel
theorem dL_law_678 : decode cL_law 678 = .ok (.iconst 1, 1) := by decide +kernel
theorem dL_law_679 : decode cL_law 679 = .ok (.iadd, 1) := by decide +kernel
theorem dL_law_680 : decode cL_law 680 = .ok (.iaload, 1) := by decide +kernel
theorem dL_law_681 : decode cL_law 681 = .ok (.invokevirtual 81, 3) := by decide +kernel
theorem dL_law_684 : decode cL_law 684 = .ok (.aload_n 2, 1) := by decide +kernel
theorem dL_law_685 : decode cL_law 685 = .ok (.aload_n 0, 1) := by decide +kernel
theorem dL_law_686 : decode cL_law 686 = .ok (.iload_n 3, 1) := by decide +kernel
theorem dL_law_687 : decode cL_law 687 = .ok (.iconst 1, 1) := by decide +kernel
theorem dL_law_688 : decode cL_law 688 = .ok (.iadd, 1) := by decide +kernel
theorem dL_law_689 : decode cL_law 689 = .ok (.iaload, 1) := by decide +kernel
theorem dL_law_690 : decode cL_law 690 = .ok (.invokevirtual 84, 3) := by decide +kernel
theorem dL_law_693 : decode cL_law 693 = .ok (.if_icmp .eq 403, 3) := by decide +kernel
theorem dL_law_696 : decode cL_law 696 = .ok (.iconst 0, 1) := by decide +kernel
theorem dL_law_697 : decode cL_law 697 = .ok (.ireturn, 1) := by decide +kernel
theorem dL_law_698 : decode cL_law 698 = .ok (.aload_n 1, 1) := by decide +kernel
theorem dL_law_699 : decode cL_law 699 = .ok (.aload_n 0, 1) := by decide +kernel
theorem dL_law_700 : decode cL_law 700 = .ok (.iload_n 3, 1) := by decide +kernel
theorem dL_law_701 : decode cL_law 701 = .ok (.iconst 1, 1) := by decide +kernel
theorem dL_law_702 : decode cL_law 702 = .ok (.iadd, 1) := by decide +kernel
theorem dL_law_703 : decode cL_law 703 = .ok (.iaload, 1) := by decide +kernel
theorem dL_law_704 : decode cL_law 704 = .ok (.aload_n 0, 1) := by decide +kernel
theorem dL_law_705 : decode cL_law 705 = .ok (.iload_n 3, 1) := by decide +kernel
theorem dL_law_706 : decode cL_law 706 = .ok (.iconst 2, 1) := by decide +kernel
theorem dL_law_707 : decode cL_law 707 = .ok (.iadd, 1) := by decide +kernel
theorem dL_law_708 : decode cL_law 708 = .ok (.iaload, 1) := by decide +kernel
theorem dL_law_709 : decode cL_law 709 = .ok (.aload_n 0, 1) := by decide +kernel
theorem dL_law_710 : decode cL_law 710 = .ok (.iload_n 3, 1) := by decide +kernel
theorem dL_law_711 : decode cL_law 711 = .ok (.iconst 3, 1) := by decide +kernel
theorem dL_law_712 : decode cL_law 712 = .ok (.iadd, 1) := by decide +kernel
theorem dL_law_713 : decode cL_law 713 = .ok (.iaload, 1) := by decide +kernel
theorem dL_law_714 : decode cL_law 714 = .ok (.aload_n 0, 1) := by decide +kernel
theorem dL_law_715 : decode cL_law 715 = .ok (.iload_n 3, 1) := by decide +kernel
theorem dL_law_716 : decode cL_law 716 = .ok (.iconst 4, 1) := by decide +kernel
theorem dL_law_717 : decode cL_law 717 = .ok (.iadd, 1) := by decide +kernel
theorem dL_law_718 : decode cL_law 718 = .ok (.iaload, 1) := by decide +kernel
theorem dL_law_719 : decode cL_law 719 = .ok (.invokevirtual 85, 3) := by decide +kernel
theorem dL_law_722 : decode cL_law 722 = .ok (.aload_n 2, 1) := by decide +kernel
theorem dL_law_723 : decode cL_law 723 = .ok (.aload_n 0, 1) := by decide +kernel
theorem dL_law_724 : decode cL_law 724 = .ok (.iload_n 3, 1) := by decide +kernel
theorem dL_law_725 : decode cL_law 725 = .ok (.iconst 1, 1) := by decide +kernel
theorem dL_law_726 : decode cL_law 726 = .ok (.iadd, 1) := by decide +kernel
theorem dL_law_727 : decode cL_law 727 = .ok (.iaload, 1) := by decide +kernel
theorem dL_law_728 : decode cL_law 728 = .ok (.aload_n 0, 1) := by decide +kernel
theorem dL_law_729 : decode cL_law 729 = .ok (.iload_n 3, 1) := by decide +kernel
theorem dL_law_730 : decode cL_law 730 = .ok (.iconst 2, 1) := by decide +kernel
theorem dL_law_731 : decode cL_law 731 = .ok (.iadd, 1) := by decide +kernel
theorem dL_law_732 : decode cL_law 732 = .ok (.iaload, 1) := by decide +kernel
theorem dL_law_733 : decode cL_law 733 = .ok (.aload_n 0, 1) := by decide +kernel
theorem dL_law_734 : decode cL_law 734 = .ok (.iload_n 3, 1) := by decide +kernel
theorem dL_law_735 : decode cL_law 735 = .ok (.iconst 3, 1) := by decide +kernel
theorem dL_law_736 : decode cL_law 736 = .ok (.iadd, 1) := by decide +kernel
theorem dL_law_737 : decode cL_law 737 = .ok (.iaload, 1) := by decide +kernel
theorem dL_law_738 : decode cL_law 738 = .ok (.aload_n 0, 1) := by decide +kernel
theorem dL_law_739 : decode cL_law 739 = .ok (.iload_n 3, 1) := by decide +kernel
theorem dL_law_740 : decode cL_law 740 = .ok (.iconst 4, 1) := by decide +kernel
theorem dL_law_741 : decode cL_law 741 = .ok (.iadd, 1) := by decide +kernel
theorem dL_law_742 : decode cL_law 742 = .ok (.iaload, 1) := by decide +kernel
theorem dL_law_743 : decode cL_law 743 = .ok (.invokevirtual 89, 3) := by decide +kernel
theorem dL_law_746 : decode cL_law 746 = .ok (.lcmp, 1) := by decide +kernel
theorem dL_law_747 : decode cL_law 747 = .ok (.ifCond .eq 349, 3) := by decide +kernel
theorem dL_law_750 : decode cL_law 750 = .ok (.iconst 0, 1) := by decide +kernel
theorem dL_law_751 : decode cL_law 751 = .ok (.ireturn, 1) := by decide +kernel
theorem dL_law_752 : decode cL_law 752 = .ok (.aload_n 1, 1) := by decide +kernel
theorem dL_law_753 : decode cL_law 753 = .ok (.aload_n 0, 1) := by decide +kernel
theorem dL_law_754 : decode cL_law 754 = .ok (.iload_n 3, 1) := by decide +kernel
theorem dL_law_755 : decode cL_law 755 = .ok (.iconst 1, 1) := by decide +kernel
theorem dL_law_756 : decode cL_law 756 = .ok (.iadd, 1) := by decide +kernel
theorem dL_law_757 : decode cL_law 757 = .ok (.iaload, 1) := by decide +kernel
theorem dL_law_758 : decode cL_law 758 = .ok (.aload_n 0, 1) := by decide +kernel
theorem dL_law_759 : decode cL_law 759 = .ok (.iload_n 3, 1) := by decide +kernel
theorem dL_law_760 : decode cL_law 760 = .ok (.iconst 2, 1) := by decide +kernel
theorem dL_law_761 : decode cL_law 761 = .ok (.iadd, 1) := by decide +kernel
theorem dL_law_762 : decode cL_law 762 = .ok (.iaload, 1) := by decide +kernel
theorem dL_law_763 : decode cL_law 763 = .ok (.aload_n 0, 1) := by decide +kernel
theorem dL_law_764 : decode cL_law 764 = .ok (.iload_n 3, 1) := by decide +kernel
theorem dL_law_765 : decode cL_law 765 = .ok (.iconst 3, 1) := by decide +kernel
theorem dL_law_766 : decode cL_law 766 = .ok (.iadd, 1) := by decide +kernel
theorem dL_law_767 : decode cL_law 767 = .ok (.iaload, 1) := by decide +kernel
theorem dL_law_768 : decode cL_law 768 = .ok (.invokevirtual 90, 3) := by decide +kernel
theorem dL_law_771 : decode cL_law 771 = .ok (.aload_n 2, 1) := by decide +kernel
theorem dL_law_772 : decode cL_law 772 = .ok (.aload_n 0, 1) := by decide +kernel
theorem dL_law_773 : decode cL_law 773 = .ok (.iload_n 3, 1) := by decide +kernel
theorem dL_law_774 : decode cL_law 774 = .ok (.iconst 1, 1) := by decide +kernel
theorem dL_law_775 : decode cL_law 775 = .ok (.iadd, 1) := by decide +kernel
theorem dL_law_776 : decode cL_law 776 = .ok (.iaload, 1) := by decide +kernel
theorem dL_law_777 : decode cL_law 777 = .ok (.aload_n 0, 1) := by decide +kernel
theorem dL_law_778 : decode cL_law 778 = .ok (.iload_n 3, 1) := by decide +kernel
theorem dL_law_779 : decode cL_law 779 = .ok (.iconst 2, 1) := by decide +kernel
theorem dL_law_780 : decode cL_law 780 = .ok (.iadd, 1) := by decide +kernel
theorem dL_law_781 : decode cL_law 781 = .ok (.iaload, 1) := by decide +kernel
theorem dL_law_782 : decode cL_law 782 = .ok (.aload_n 0, 1) := by decide +kernel
theorem dL_law_783 : decode cL_law 783 = .ok (.iload_n 3, 1) := by decide +kernel
theorem dL_law_784 : decode cL_law 784 = .ok (.iconst 3, 1) := by decide +kernel
theorem dL_law_785 : decode cL_law 785 = .ok (.iadd, 1) := by decide +kernel
theorem dL_law_786 : decode cL_law 786 = .ok (.iaload, 1) := by decide +kernel
theorem dL_law_787 : decode cL_law 787 = .ok (.invokevirtual 93, 3) := by decide +kernel
theorem dL_law_790 : decode cL_law 790 = .ok (.if_icmp .eq 306, 3) := by decide +kernel
theorem dL_law_793 : decode cL_law 793 = .ok (.iconst 0, 1) := by decide +kernel
theorem dL_law_794 : decode cL_law 794 = .ok (.ireturn, 1) := by decide +kernel
theorem dL_law_795 : decode cL_law 795 = .ok (.aload_n 1, 1) := by decide +kernel
theorem dL_law_796 : decode cL_law 796 = .ok (.aload_n 0, 1) := by decide +kernel
theorem dL_law_797 : decode cL_law 797 = .ok (.iload_n 3, 1) := by decide +kernel
theorem dL_law_798 : decode cL_law 798 = .ok (.iconst 1, 1) := by decide +kernel
theorem dL_law_799 : decode cL_law 799 = .ok (.iadd, 1) := by decide +kernel
theorem dL_law_800 : decode cL_law 800 = .ok (.iaload, 1) := by decide +kernel
theorem dL_law_801 : decode cL_law 801 = .ok (.invokevirtual 94, 3) := by decide +kernel
theorem dL_law_804 : decode cL_law 804 = .ok (.aload_n 2, 1) := by decide +kernel
theorem dL_law_805 : decode cL_law 805 = .ok (.aload_n 0, 1) := by decide +kernel
theorem dL_law_806 : decode cL_law 806 = .ok (.iload_n 3, 1) := by decide +kernel
theorem dL_law_807 : decode cL_law 807 = .ok (.iconst 1, 1) := by decide +kernel
theorem dL_law_808 : decode cL_law 808 = .ok (.iadd, 1) := by decide +kernel
theorem dL_law_809 : decode cL_law 809 = .ok (.iaload, 1) := by decide +kernel
theorem dL_law_810 : decode cL_law 810 = .ok (.invokevirtual 97, 3) := by decide +kernel
theorem dL_law_813 : decode cL_law 813 = .ok (.if_icmp .eq 283, 3) := by decide +kernel
theorem dL_law_816 : decode cL_law 816 = .ok (.iconst 0, 1) := by decide +kernel
theorem dL_law_817 : decode cL_law 817 = .ok (.ireturn, 1) := by decide +kernel
theorem dL_law_818 : decode cL_law 818 = .ok (.aload_n 1, 1) := by decide +kernel
theorem dL_law_819 : decode cL_law 819 = .ok (.aload_n 0, 1) := by decide +kernel
theorem dL_law_820 : decode cL_law 820 = .ok (.iload_n 3, 1) := by decide +kernel
theorem dL_law_821 : decode cL_law 821 = .ok (.iconst 1, 1) := by decide +kernel
theorem dL_law_822 : decode cL_law 822 = .ok (.iadd, 1) := by decide +kernel
theorem dL_law_823 : decode cL_law 823 = .ok (.iaload, 1) := by decide +kernel
theorem dL_law_824 : decode cL_law 824 = .ok (.aload_n 0, 1) := by decide +kernel
theorem dL_law_825 : decode cL_law 825 = .ok (.iload_n 3, 1) := by decide +kernel
theorem dL_law_826 : decode cL_law 826 = .ok (.iconst 2, 1) := by decide +kernel
theorem dL_law_827 : decode cL_law 827 = .ok (.iadd, 1) := by decide +kernel
theorem dL_law_828 : decode cL_law 828 = .ok (.iaload, 1) := by decide +kernel
theorem dL_law_829 : decode cL_law 829 = .ok (.aload_n 0, 1) := by decide +kernel
theorem dL_law_830 : decode cL_law 830 = .ok (.iload_n 3, 1) := by decide +kernel
theorem dL_law_831 : decode cL_law 831 = .ok (.iconst 3, 1) := by decide +kernel
theorem dL_law_832 : decode cL_law 832 = .ok (.iadd, 1) := by decide +kernel
theorem dL_law_833 : decode cL_law 833 = .ok (.iaload, 1) := by decide +kernel
theorem dL_law_834 : decode cL_law 834 = .ok (.invokevirtual 98, 3) := by decide +kernel
theorem dL_law_837 : decode cL_law 837 = .ok (.aload_n 2, 1) := by decide +kernel
theorem dL_law_838 : decode cL_law 838 = .ok (.aload_n 0, 1) := by decide +kernel
theorem dL_law_839 : decode cL_law 839 = .ok (.iload_n 3, 1) := by decide +kernel
theorem dL_law_840 : decode cL_law 840 = .ok (.iconst 1, 1) := by decide +kernel
theorem dL_law_841 : decode cL_law 841 = .ok (.iadd, 1) := by decide +kernel
theorem dL_law_842 : decode cL_law 842 = .ok (.iaload, 1) := by decide +kernel
theorem dL_law_843 : decode cL_law 843 = .ok (.aload_n 0, 1) := by decide +kernel
theorem dL_law_844 : decode cL_law 844 = .ok (.iload_n 3, 1) := by decide +kernel
theorem dL_law_845 : decode cL_law 845 = .ok (.iconst 2, 1) := by decide +kernel
theorem dL_law_846 : decode cL_law 846 = .ok (.iadd, 1) := by decide +kernel
theorem dL_law_847 : decode cL_law 847 = .ok (.iaload, 1) := by decide +kernel
theorem dL_law_848 : decode cL_law 848 = .ok (.aload_n 0, 1) := by decide +kernel
theorem dL_law_849 : decode cL_law 849 = .ok (.iload_n 3, 1) := by decide +kernel
theorem dL_law_850 : decode cL_law 850 = .ok (.iconst 3, 1) := by decide +kernel
theorem dL_law_851 : decode cL_law 851 = .ok (.iadd, 1) := by decide +kernel
theorem dL_law_852 : decode cL_law 852 = .ok (.iaload, 1) := by decide +kernel
theorem dL_law_853 : decode cL_law 853 = .ok (.invokevirtual 101, 3) := by decide +kernel
theorem dL_law_856 : decode cL_law 856 = .ok (.if_icmp .eq 240, 3) := by decide +kernel
theorem dL_law_859 : decode cL_law 859 = .ok (.iconst 0, 1) := by decide +kernel
theorem dL_law_860 : decode cL_law 860 = .ok (.ireturn, 1) := by decide +kernel
theorem dL_law_861 : decode cL_law 861 = .ok (.aload_n 1, 1) := by decide +kernel
theorem dL_law_862 : decode cL_law 862 = .ok (.aload_n 0, 1) := by decide +kernel
theorem dL_law_863 : decode cL_law 863 = .ok (.iload_n 3, 1) := by decide +kernel
theorem dL_law_864 : decode cL_law 864 = .ok (.iconst 1, 1) := by decide +kernel
theorem dL_law_865 : decode cL_law 865 = .ok (.iadd, 1) := by decide +kernel
theorem dL_law_866 : decode cL_law 866 = .ok (.iaload, 1) := by decide +kernel
theorem dL_law_867 : decode cL_law 867 = .ok (.aload_n 0, 1) := by decide +kernel
theorem dL_law_868 : decode cL_law 868 = .ok (.iload_n 3, 1) := by decide +kernel
theorem dL_law_869 : decode cL_law 869 = .ok (.iconst 2, 1) := by decide +kernel
theorem dL_law_870 : decode cL_law 870 = .ok (.iadd, 1) := by decide +kernel
theorem dL_law_871 : decode cL_law 871 = .ok (.iaload, 1) := by decide +kernel
theorem dL_law_872 : decode cL_law 872 = .ok (.aload_n 0, 1) := by decide +kernel
theorem dL_law_873 : decode cL_law 873 = .ok (.iload_n 3, 1) := by decide +kernel
theorem dL_law_874 : decode cL_law 874 = .ok (.iconst 3, 1) := by decide +kernel
theorem dL_law_875 : decode cL_law 875 = .ok (.iadd, 1) := by decide +kernel
theorem dL_law_876 : decode cL_law 876 = .ok (.iaload, 1) := by decide +kernel
theorem dL_law_877 : decode cL_law 877 = .ok (.invokevirtual 102, 3) := by decide +kernel
theorem dL_law_880 : decode cL_law 880 = .ok (.aload_n 2, 1) := by decide +kernel
theorem dL_law_881 : decode cL_law 881 = .ok (.aload_n 0, 1) := by decide +kernel
theorem dL_law_882 : decode cL_law 882 = .ok (.iload_n 3, 1) := by decide +kernel
theorem dL_law_883 : decode cL_law 883 = .ok (.iconst 1, 1) := by decide +kernel
theorem dL_law_884 : decode cL_law 884 = .ok (.iadd, 1) := by decide +kernel
theorem dL_law_885 : decode cL_law 885 = .ok (.iaload, 1) := by decide +kernel
theorem dL_law_886 : decode cL_law 886 = .ok (.aload_n 0, 1) := by decide +kernel
theorem dL_law_887 : decode cL_law 887 = .ok (.iload_n 3, 1) := by decide +kernel
theorem dL_law_888 : decode cL_law 888 = .ok (.iconst 2, 1) := by decide +kernel
theorem dL_law_889 : decode cL_law 889 = .ok (.iadd, 1) := by decide +kernel
theorem dL_law_890 : decode cL_law 890 = .ok (.iaload, 1) := by decide +kernel
theorem dL_law_891 : decode cL_law 891 = .ok (.aload_n 0, 1) := by decide +kernel
theorem dL_law_892 : decode cL_law 892 = .ok (.iload_n 3, 1) := by decide +kernel
theorem dL_law_893 : decode cL_law 893 = .ok (.iconst 3, 1) := by decide +kernel
theorem dL_law_894 : decode cL_law 894 = .ok (.iadd, 1) := by decide +kernel
theorem dL_law_895 : decode cL_law 895 = .ok (.iaload, 1) := by decide +kernel
theorem dL_law_896 : decode cL_law 896 = .ok (.invokevirtual 106, 3) := by decide +kernel
theorem dL_law_899 : decode cL_law 899 = .ok (.lcmp, 1) := by decide +kernel
theorem dL_law_900 : decode cL_law 900 = .ok (.ifCond .eq 196, 3) := by decide +kernel
theorem dL_law_903 : decode cL_law 903 = .ok (.iconst 0, 1) := by decide +kernel
theorem dL_law_904 : decode cL_law 904 = .ok (.ireturn, 1) := by decide +kernel
theorem dL_law_905 : decode cL_law 905 = .ok (.aload_n 1, 1) := by decide +kernel
theorem dL_law_906 : decode cL_law 906 = .ok (.aload_n 0, 1) := by decide +kernel
theorem dL_law_907 : decode cL_law 907 = .ok (.iload_n 3, 1) := by decide +kernel
theorem dL_law_908 : decode cL_law 908 = .ok (.iconst 1, 1) := by decide +kernel
theorem dL_law_909 : decode cL_law 909 = .ok (.iadd, 1) := by decide +kernel
theorem dL_law_910 : decode cL_law 910 = .ok (.iaload, 1) := by decide +kernel
theorem dL_law_911 : decode cL_law 911 = .ok (.aload_n 0, 1) := by decide +kernel
theorem dL_law_912 : decode cL_law 912 = .ok (.iload_n 3, 1) := by decide +kernel
theorem dL_law_913 : decode cL_law 913 = .ok (.iconst 2, 1) := by decide +kernel
theorem dL_law_914 : decode cL_law 914 = .ok (.iadd, 1) := by decide +kernel
theorem dL_law_915 : decode cL_law 915 = .ok (.iaload, 1) := by decide +kernel
theorem dL_law_916 : decode cL_law 916 = .ok (.aload_n 0, 1) := by decide +kernel
theorem dL_law_917 : decode cL_law 917 = .ok (.iload_n 3, 1) := by decide +kernel
theorem dL_law_918 : decode cL_law 918 = .ok (.iconst 3, 1) := by decide +kernel
theorem dL_law_919 : decode cL_law 919 = .ok (.iadd, 1) := by decide +kernel
theorem dL_law_920 : decode cL_law 920 = .ok (.iaload, 1) := by decide +kernel
theorem dL_law_921 : decode cL_law 921 = .ok (.aload_n 0, 1) := by decide +kernel
theorem dL_law_922 : decode cL_law 922 = .ok (.iload_n 3, 1) := by decide +kernel
theorem dL_law_923 : decode cL_law 923 = .ok (.iconst 4, 1) := by decide +kernel
theorem dL_law_924 : decode cL_law 924 = .ok (.iadd, 1) := by decide +kernel
theorem dL_law_925 : decode cL_law 925 = .ok (.iaload, 1) := by decide +kernel
theorem dL_law_926 : decode cL_law 926 = .ok (.aload_n 0, 1) := by decide +kernel
theorem dL_law_927 : decode cL_law 927 = .ok (.iload_n 3, 1) := by decide +kernel
theorem dL_law_928 : decode cL_law 928 = .ok (.iconst 5, 1) := by decide +kernel
theorem dL_law_929 : decode cL_law 929 = .ok (.iadd, 1) := by decide +kernel
theorem dL_law_930 : decode cL_law 930 = .ok (.iaload, 1) := by decide +kernel
theorem dL_law_931 : decode cL_law 931 = .ok (.invokevirtual 107, 3) := by decide +kernel
theorem dL_law_934 : decode cL_law 934 = .ok (.aload_n 2, 1) := by decide +kernel
theorem dL_law_935 : decode cL_law 935 = .ok (.aload_n 0, 1) := by decide +kernel
theorem dL_law_936 : decode cL_law 936 = .ok (.iload_n 3, 1) := by decide +kernel
theorem dL_law_937 : decode cL_law 937 = .ok (.iconst 1, 1) := by decide +kernel
theorem dL_law_938 : decode cL_law 938 = .ok (.iadd, 1) := by decide +kernel
theorem dL_law_939 : decode cL_law 939 = .ok (.iaload, 1) := by decide +kernel
theorem dL_law_940 : decode cL_law 940 = .ok (.aload_n 0, 1) := by decide +kernel
theorem dL_law_941 : decode cL_law 941 = .ok (.iload_n 3, 1) := by decide +kernel
theorem dL_law_942 : decode cL_law 942 = .ok (.iconst 2, 1) := by decide +kernel
theorem dL_law_943 : decode cL_law 943 = .ok (.iadd, 1) := by decide +kernel
theorem dL_law_944 : decode cL_law 944 = .ok (.iaload, 1) := by decide +kernel
theorem dL_law_945 : decode cL_law 945 = .ok (.aload_n 0, 1) := by decide +kernel
theorem dL_law_946 : decode cL_law 946 = .ok (.iload_n 3, 1) := by decide +kernel
theorem dL_law_947 : decode cL_law 947 = .ok (.iconst 3, 1) := by decide +kernel
theorem dL_law_948 : decode cL_law 948 = .ok (.iadd, 1) := by decide +kernel
theorem dL_law_949 : decode cL_law 949 = .ok (.iaload, 1) := by decide +kernel
theorem dL_law_950 : decode cL_law 950 = .ok (.aload_n 0, 1) := by decide +kernel
theorem dL_law_951 : decode cL_law 951 = .ok (.iload_n 3, 1) := by decide +kernel
theorem dL_law_952 : decode cL_law 952 = .ok (.iconst 4, 1) := by decide +kernel
theorem dL_law_953 : decode cL_law 953 = .ok (.iadd, 1) := by decide +kernel
theorem dL_law_954 : decode cL_law 954 = .ok (.iaload, 1) := by decide +kernel
theorem dL_law_955 : decode cL_law 955 = .ok (.aload_n 0, 1) := by decide +kernel
theorem dL_law_956 : decode cL_law 956 = .ok (.iload_n 3, 1) := by decide +kernel
theorem dL_law_957 : decode cL_law 957 = .ok (.iconst 5, 1) := by decide +kernel
theorem dL_law_958 : decode cL_law 958 = .ok (.iadd, 1) := by decide +kernel
theorem dL_law_959 : decode cL_law 959 = .ok (.iaload, 1) := by decide +kernel
theorem dL_law_960 : decode cL_law 960 = .ok (.invokevirtual 110, 3) := by decide +kernel
theorem dL_law_963 : decode cL_law 963 = .ok (.if_icmp .eq 133, 3) := by decide +kernel
theorem dL_law_966 : decode cL_law 966 = .ok (.iconst 0, 1) := by decide +kernel
theorem dL_law_967 : decode cL_law 967 = .ok (.ireturn, 1) := by decide +kernel
theorem dL_law_968 : decode cL_law 968 = .ok (.aload_n 1, 1) := by decide +kernel
theorem dL_law_969 : decode cL_law 969 = .ok (.aload_n 0, 1) := by decide +kernel
theorem dL_law_970 : decode cL_law 970 = .ok (.iload_n 3, 1) := by decide +kernel
theorem dL_law_971 : decode cL_law 971 = .ok (.iconst 1, 1) := by decide +kernel
theorem dL_law_972 : decode cL_law 972 = .ok (.iadd, 1) := by decide +kernel
theorem dL_law_973 : decode cL_law 973 = .ok (.iaload, 1) := by decide +kernel
theorem dL_law_974 : decode cL_law 974 = .ok (.invokevirtual 111, 3) := by decide +kernel
theorem dL_law_977 : decode cL_law 977 = .ok (.aload_n 2, 1) := by decide +kernel
theorem dL_law_978 : decode cL_law 978 = .ok (.aload_n 0, 1) := by decide +kernel
theorem dL_law_979 : decode cL_law 979 = .ok (.iload_n 3, 1) := by decide +kernel
theorem dL_law_980 : decode cL_law 980 = .ok (.iconst 1, 1) := by decide +kernel
theorem dL_law_981 : decode cL_law 981 = .ok (.iadd, 1) := by decide +kernel
theorem dL_law_982 : decode cL_law 982 = .ok (.iaload, 1) := by decide +kernel
theorem dL_law_983 : decode cL_law 983 = .ok (.invokevirtual 114, 3) := by decide +kernel
theorem dL_law_986 : decode cL_law 986 = .ok (.if_icmp .eq 110, 3) := by decide +kernel
theorem dL_law_989 : decode cL_law 989 = .ok (.iconst 0, 1) := by decide +kernel
theorem dL_law_990 : decode cL_law 990 = .ok (.ireturn, 1) := by decide +kernel
theorem dL_law_991 : decode cL_law 991 = .ok (.aload_n 1, 1) := by decide +kernel
theorem dL_law_992 : decode cL_law 992 = .ok (.aload_n 0, 1) := by decide +kernel
theorem dL_law_993 : decode cL_law 993 = .ok (.iload_n 3, 1) := by decide +kernel
theorem dL_law_994 : decode cL_law 994 = .ok (.iconst 1, 1) := by decide +kernel
theorem dL_law_995 : decode cL_law 995 = .ok (.iadd, 1) := by decide +kernel
theorem dL_law_996 : decode cL_law 996 = .ok (.iaload, 1) := by decide +kernel
theorem dL_law_997 : decode cL_law 997 = .ok (.invokevirtual 115, 3) := by decide +kernel
theorem dL_law_1000 : decode cL_law 1000 = .ok (.aload_n 2, 1) := by decide +kernel
theorem dL_law_1001 : decode cL_law 1001 = .ok (.aload_n 0, 1) := by decide +kernel
theorem dL_law_1002 : decode cL_law 1002 = .ok (.iload_n 3, 1) := by decide +kernel
theorem dL_law_1003 : decode cL_law 1003 = .ok (.iconst 1, 1) := by decide +kernel
theorem dL_law_1004 : decode cL_law 1004 = .ok (.iadd, 1) := by decide +kernel
theorem dL_law_1005 : decode cL_law 1005 = .ok (.iaload, 1) := by decide +kernel
theorem dL_law_1006 : decode cL_law 1006 = .ok (.invokevirtual 118, 3) := by decide +kernel
theorem dL_law_1009 : decode cL_law 1009 = .ok (.if_icmp .eq 87, 3) := by decide +kernel
theorem dL_law_1012 : decode cL_law 1012 = .ok (.iconst 0, 1) := by decide +kernel
theorem dL_law_1013 : decode cL_law 1013 = .ok (.ireturn, 1) := by decide +kernel
theorem dL_law_1014 : decode cL_law 1014 = .ok (.aload_n 1, 1) := by decide +kernel
theorem dL_law_1015 : decode cL_law 1015 = .ok (.aload_n 0, 1) := by decide +kernel
theorem dL_law_1016 : decode cL_law 1016 = .ok (.iload_n 3, 1) := by decide +kernel
theorem dL_law_1017 : decode cL_law 1017 = .ok (.iconst 1, 1) := by decide +kernel
theorem dL_law_1018 : decode cL_law 1018 = .ok (.iadd, 1) := by decide +kernel
theorem dL_law_1019 : decode cL_law 1019 = .ok (.iaload, 1) := by decide +kernel
theorem dL_law_1020 : decode cL_law 1020 = .ok (.aload_n 0, 1) := by decide +kernel
theorem dL_law_1021 : decode cL_law 1021 = .ok (.iload_n 3, 1) := by decide +kernel
theorem dL_law_1022 : decode cL_law 1022 = .ok (.iconst 2, 1) := by decide +kernel
theorem dL_law_1023 : decode cL_law 1023 = .ok (.iadd, 1) := by decide +kernel
theorem dL_law_1024 : decode cL_law 1024 = .ok (.iaload, 1) := by decide +kernel
theorem dL_law_1025 : decode cL_law 1025 = .ok (.invokevirtual 119, 3) := by decide +kernel
theorem dL_law_1028 : decode cL_law 1028 = .ok (.aload_n 2, 1) := by decide +kernel
theorem dL_law_1029 : decode cL_law 1029 = .ok (.aload_n 0, 1) := by decide +kernel
theorem dL_law_1030 : decode cL_law 1030 = .ok (.iload_n 3, 1) := by decide +kernel
theorem dL_law_1031 : decode cL_law 1031 = .ok (.iconst 1, 1) := by decide +kernel
theorem dL_law_1032 : decode cL_law 1032 = .ok (.iadd, 1) := by decide +kernel
theorem dL_law_1033 : decode cL_law 1033 = .ok (.iaload, 1) := by decide +kernel
theorem dL_law_1034 : decode cL_law 1034 = .ok (.aload_n 0, 1) := by decide +kernel
theorem dL_law_1035 : decode cL_law 1035 = .ok (.iload_n 3, 1) := by decide +kernel
theorem dL_law_1036 : decode cL_law 1036 = .ok (.iconst 2, 1) := by decide +kernel
theorem dL_law_1037 : decode cL_law 1037 = .ok (.iadd, 1) := by decide +kernel
theorem dL_law_1038 : decode cL_law 1038 = .ok (.iaload, 1) := by decide +kernel
theorem dL_law_1039 : decode cL_law 1039 = .ok (.invokevirtual 122, 3) := by decide +kernel
theorem dL_law_1042 : decode cL_law 1042 = .ok (.if_icmp .eq 54, 3) := by decide +kernel
theorem dL_law_1045 : decode cL_law 1045 = .ok (.iconst 0, 1) := by decide +kernel
theorem dL_law_1046 : decode cL_law 1046 = .ok (.ireturn, 1) := by decide +kernel
theorem dL_law_1047 : decode cL_law 1047 = .ok (.aload_n 1, 1) := by decide +kernel
theorem dL_law_1048 : decode cL_law 1048 = .ok (.invokevirtual 123, 3) := by decide +kernel
theorem dL_law_1051 : decode cL_law 1051 = .ok (.aload_n 2, 1) := by decide +kernel
theorem dL_law_1052 : decode cL_law 1052 = .ok (.invokevirtual 127, 3) := by decide +kernel
theorem dL_law_1055 : decode cL_law 1055 = .ok (.if_icmp .eq 41, 3) := by decide +kernel
theorem dL_law_1058 : decode cL_law 1058 = .ok (.iconst 0, 1) := by decide +kernel
theorem dL_law_1059 : decode cL_law 1059 = .ok (.ireturn, 1) := by decide +kernel
theorem dL_law_1060 : decode cL_law 1060 = .ok (.aload_n 1, 1) := by decide +kernel
theorem dL_law_1061 : decode cL_law 1061 = .ok (.invokevirtual 128, 3) := by decide +kernel
theorem dL_law_1064 : decode cL_law 1064 = .ok (.aload_n 2, 1) := by decide +kernel
theorem dL_law_1065 : decode cL_law 1065 = .ok (.invokevirtual 131, 3) := by decide +kernel
theorem dL_law_1068 : decode cL_law 1068 = .ok (.if_icmp .eq 28, 3) := by decide +kernel
theorem dL_law_1071 : decode cL_law 1071 = .ok (.iconst 0, 1) := by decide +kernel
theorem dL_law_1072 : decode cL_law 1072 = .ok (.ireturn, 1) := by decide +kernel
theorem dL_law_1073 : decode cL_law 1073 = .ok (.aload_n 1, 1) := by decide +kernel
theorem dL_law_1074 : decode cL_law 1074 = .ok (.aload_n 0, 1) := by decide +kernel
theorem dL_law_1075 : decode cL_law 1075 = .ok (.iload_n 3, 1) := by decide +kernel
theorem dL_law_1076 : decode cL_law 1076 = .ok (.iconst 1, 1) := by decide +kernel
theorem dL_law_1077 : decode cL_law 1077 = .ok (.iadd, 1) := by decide +kernel
theorem dL_law_1078 : decode cL_law 1078 = .ok (.iaload, 1) := by decide +kernel
theorem dL_law_1079 : decode cL_law 1079 = .ok (.invokevirtual 132, 3) := by decide +kernel
theorem dL_law_1082 : decode cL_law 1082 = .ok (.aload_n 2, 1) := by decide +kernel
theorem dL_law_1083 : decode cL_law 1083 = .ok (.aload_n 0, 1) := by decide +kernel
theorem dL_law_1084 : decode cL_law 1084 = .ok (.iload_n 3, 1) := by decide +kernel
theorem dL_law_1085 : decode cL_law 1085 = .ok (.iconst 1, 1) := by decide +kernel
theorem dL_law_1086 : decode cL_law 1086 = .ok (.iadd, 1) := by decide +kernel
theorem dL_law_1087 : decode cL_law 1087 = .ok (.iaload, 1) := by decide +kernel
theorem dL_law_1088 : decode cL_law 1088 = .ok (.invokevirtual 135, 3) := by decide +kernel
theorem dL_law_1091 : decode cL_law 1091 = .ok (.if_icmp .eq 5, 3) := by decide +kernel
theorem dL_law_1094 : decode cL_law 1094 = .ok (.iconst 0, 1) := by decide +kernel
theorem dL_law_1095 : decode cL_law 1095 = .ok (.ireturn, 1) := by decide +kernel
theorem dL_law_1096 : decode cL_law 1096 = .ok (.iinc 3 6, 3) := by decide +kernel
theorem dL_law_1099 : decode cL_law 1099 = .ok (.goto (-1081), 3) := by decide +kernel
theorem dL_law_1102 : decode cL_law 1102 = .ok (.iconst 1, 1) := by decide +kernel
theorem dL_law_1103 : decode cL_law 1103 = .ok (.ireturn, 1) := by decide +kernel
end
section
/-! THE MACHINE SEEN FROM FARTHER OFF: values, locals and the world as whole numbers. -/
theorem am_goodIn_r {big : List Cond} (ws : List Cond) (ps : List Nat) (hp : ws = ps.filterMap (fun i => big[i]?)) : ∀ w ∈ ws, w ∈ big := by
  intro w hw
  rw [hp] at hw
  obtain ⟨i, -, hi⟩ := List.mem_filterMap.mp hw
  exact List.mem_of_getElem? hi
/-- a word of the tables that stays -/
def am_T (w : Cond) : Prop := w ∈ lw_tbl ∧ goodWord w = true
theorem am_inT (ws : List Cond) (ps : List Nat) (hp : ws = ps.filterMap (fun i => tables_1[i]?)) (hg : ws.all goodWord = true) : ∀ w ∈ ws, am_T w :=
  fun w hw => ⟨List.mem_append_right _ (am_goodIn_r ws ps hp w hw), List.all_eq_true.mp hg w hw⟩
def am_G : List Cond := lw_tbl.filter goodWord
theorem am_G_iff {w : Cond} : w ∈ am_G ↔ am_T w := List.mem_filter
/-- values: an int, a long, a cell -/
abbrev am_V : Type := Int ⊕ Int ⊕ Int
/-- a world: what stands in a cell at a place -/
abbrev am_H : Type := Int → Int → Int
abbrev am_Q : Type := Option am_V → am_H → am_H → Prop
def am_I (x : Int) : am_V := .inl x
def am_L (x : Int) : am_V := .inr (.inl x)
def am_R (x : Int) : am_V := .inr (.inr x)
def am_okI (x : Int) : Prop := -2147483648 ≤ x ∧ x < 2147483648
def am_okJ (x : Int) : Prop := -9223372036854775808 ≤ x ∧ x < 9223372036854775808
def am_okV (n : Int) (v : am_V) : Prop := match v with
  | .inl x => am_okI x
  | .inr (.inl x) => am_okJ x
  | .inr (.inr x) => x < n
def am_c (ad : Int → Nat) (v : am_V) : Value := match v with
  | .inl x => .int (Int32.ofInt x)
  | .inr (.inl x) => .long (Int64.ofInt x)
  | .inr (.inr x) => .ref (ad x)
theorem am_c_I (ad : Int → Nat) (x : Int) : am_c ad (am_I x) = .int (Int32.ofInt x) := rfl
theorem am_c_L (ad : Int → Nat) (x : Int) : am_c ad (am_L x) = .long (Int64.ofInt x) := rfl
theorem am_c_R (ad : Int → Nat) (x : Int) : am_c ad (am_R x) = .ref (ad x) := rfl
theorem am_toInt {x : Int} (h : am_okI x) : (Int32.ofInt x).toInt = x := Int32.toInt_ofInt_of_le (by have := h.1; omega) (by have := h.2; omega)
theorem am_toIntJ {x : Int} (h : am_okJ x) : (Int64.ofInt x).toInt = x := Int64.toInt_ofInt_of_le (by have := h.1; omega) (by have := h.2; omega)
theorem am_inj {x y : Int} (hx : am_okI x) (hy : am_okI y) : Int32.ofInt x = Int32.ofInt y ↔ x = y := by
  rw [← Int32.toInt_inj, am_toInt hx, am_toInt hy]
theorem am_lt {x y : Int} (hx : am_okI x) (hy : am_okI y) : Int32.ofInt x < Int32.ofInt y ↔ x < y := by
  rw [Int32.lt_iff_toInt_lt, am_toInt hx, am_toInt hy]
theorem am_le {x y : Int} (hx : am_okI x) (hy : am_okI y) : Int32.ofInt x ≤ Int32.ofInt y ↔ x ≤ y := by
  rw [Int32.le_iff_toInt_le, am_toInt hx, am_toInt hy]
theorem am_injJ {x y : Int} (hx : am_okJ x) (hy : am_okJ y) : Int64.ofInt x = Int64.ofInt y ↔ x = y := by
  rw [← Int64.toInt_inj, am_toIntJ hx, am_toIntJ hy]
theorem am_ltJ {x y : Int} (hx : am_okJ x) (hy : am_okJ y) : Int64.ofInt x < Int64.ofInt y ↔ x < y := by
  rw [Int64.lt_iff_toInt_lt, am_toIntJ hx, am_toIntJ hy]
theorem am_ok0 : am_okI 0 := ⟨by decide, by decide⟩
theorem am_0 : Int32.ofInt 0 = 0 := by decide
theorem am_okw (x : Int32) : am_okI x.toInt := ⟨by have := x.le_toInt; omega, by have := x.toInt_lt; omega⟩
theorem am_okwJ (x : Int64) : am_okJ x.toInt := ⟨by have := x.le_toInt; omega, by have := x.toInt_lt; omega⟩
/-- what is left of a number in an int -/
def am_w (x : Int) : Int := (Int32.ofInt x).toInt
theorem am_w_ok (x : Int) : am_okI (am_w x) := am_okw _
theorem am_w_of (x : Int) : Int32.ofInt (am_w x) = Int32.ofInt x := Int32.ofInt_toInt _
theorem am_w_id {x : Int} (h : am_okI x) : am_w x = x := am_toInt h
/-- the listed locals -/
def am_lv (ad : Int → Nat) : Nat → List (Option am_V) → List (Nat × Value)
  | _, [] => []
  | i, none :: t => am_lv ad (i + 1) t
  | i, some v :: t => (i, am_c ad v) :: am_lv ad (i + 1) t
theorem am_lv_mem (ad : Int → Nat) : ∀ (ls : List (Option am_V)) (i : Nat) (q : Nat × Value), q ∈ am_lv ad i ls ↔ ∃ (j : Nat) (v : am_V), ls[j]? = some (some v) ∧ q = (i + j, am_c ad v)
  | [], i, q => by simp [am_lv]
  | none :: t, i, q => by
    rw [am_lv, am_lv_mem ad t (i + 1) q]
    constructor
    · rintro ⟨j, v, h, e⟩
      exact ⟨j + 1, v, by simpa using h, by rw [e]; congr 1; omega⟩
    · rintro ⟨j, v, h, e⟩
      cases j with
      | zero => simp at h
      | succ j => exact ⟨j, v, by simpa using h, by rw [e]; congr 1; omega⟩
  | some w :: t, i, q => by
    rw [am_lv, List.mem_cons, am_lv_mem ad t (i + 1) q]
    constructor
    · rintro (e | ⟨j, v, h, e⟩)
      · exact ⟨0, w, rfl, e⟩
      · exact ⟨j + 1, v, by simpa using h, by rw [e]; congr 1; omega⟩
    · rintro ⟨j, v, h, e⟩
      cases j with
      | zero =>
        simp at h
        subst h
        exact Or.inl e
      | succ j => exact Or.inr ⟨j, v, by simpa using h, by rw [e]; congr 1; omega⟩
theorem am_lv_at {ad : Int → Nat} {ls : List (Option am_V)} {lc : Array Slot} {n k : Nat} {v : am_V} (h : lv_has lc n (am_lv ad 0 ls)) (hk : ls[k]? = some (some v)) : lc[k]? = some (.val (am_c ad v)) :=
  h.2.2 (k, am_c ad v) ((am_lv_mem ad ls 0 _).mpr ⟨k, v, hk, by simp⟩)
/-- no long stands before the place -/
def am_nl (ls : List (Option am_V)) (k : Nat) : Bool := match k with
  | 0 => true
  | k + 1 => match ls[k]? with
    | some (some (.inr (.inl _))) => false
    | _ => true
theorem am_nl_cat {ad : Int → Nat} {ls : List (Option am_V)} {k j : Nat} {v : am_V} (h : am_nl ls k = true) (hj : ls[j]? = some (some v)) (e : j + 1 = k) : ¬ (am_c ad v).category = 2 := by
  subst e
  rcases v with x | x | x
  · intro q; cases q
  · simp [am_nl, hj] at h
  · intro q; cases q
theorem am_lv_store1 {ad : Int → Nat} {ls : List (Option am_V)} {lc : Array Slot} {n k : Nat} {v : am_V} (h : lv_has lc n ((k, am_c ad v) :: (am_lv ad 0 ls).filter (fun q => !(q.1 == k) && !(q.1 + 1 == k && q.2.category == 2)))) (hn : am_nl ls k = true) :
    lv_has lc n (am_lv ad 0 (ls.set k (some v))) := by
  refine ⟨h.1, h.2.1, fun q hq => ?_⟩
  obtain ⟨j, w, hj, rfl⟩ := (am_lv_mem ad _ 0 q).mp hq
  by_cases hjk : j = k
  · subst hjk
    by_cases hl : j < ls.length
    · rw [List.getElem?_set_self hl] at hj
      cases hj
      exact h.2.2 _ (by simp)
    · rw [List.getElem?_eq_none (by simp; omega)] at hj
      cases hj
  · rw [List.getElem?_set_ne (Ne.symm hjk)] at hj
    refine h.2.2 _ (List.mem_cons_of_mem _ (List.mem_filter.mpr ⟨(am_lv_mem ad ls 0 _).mpr ⟨j, w, hj, rfl⟩, ?_⟩))
    simp only [Nat.zero_add]
    by_cases e : j + 1 = k
    · have := am_nl_cat (ad := ad) hn hj e
      simp [hjk, this]
    · simp [hjk, e]
theorem am_lv_store2 {ad : Int → Nat} {ls : List (Option am_V)} {lc : Array Slot} {n k : Nat} {v : am_V} (h : lv_has lc n ((k, am_c ad v) :: (am_lv ad 0 ls).filter (fun q => !(q.1 == k) && (!(q.1 == k + 1) && !(q.1 + 1 == k && q.2.category == 2))))) (hn : am_nl ls k = true) :
    lv_has lc n (am_lv ad 0 ((ls.set k (some v)).set (k + 1) none)) := by
  refine ⟨h.1, h.2.1, fun q hq => ?_⟩
  obtain ⟨j, w, hj, rfl⟩ := (am_lv_mem ad _ 0 q).mp hq
  by_cases hj1 : j = k + 1
  · subst hj1
    by_cases hl : k + 1 < ls.length
    · rw [List.getElem?_set_self (by simpa using hl)] at hj
      cases hj
    · rw [List.getElem?_eq_none (by simp; omega)] at hj
      cases hj
  · rw [List.getElem?_set_ne (Ne.symm hj1)] at hj
    by_cases hjk : j = k
    · subst hjk
      by_cases hl : j < ls.length
      · rw [List.getElem?_set_self hl] at hj
        cases hj
        exact h.2.2 _ (by simp)
      · rw [List.getElem?_eq_none (by simp; omega)] at hj
        cases hj
    · rw [List.getElem?_set_ne (Ne.symm hjk)] at hj
      refine h.2.2 _ (List.mem_cons_of_mem _ (List.mem_filter.mpr ⟨(am_lv_mem ad ls 0 _).mpr ⟨j, w, hj, rfl⟩, ?_⟩))
      simp only [Nat.zero_add]
      by_cases e : j + 1 = k
      · have := am_nl_cat (ad := ad) hn hj e
        simp [hjk, hj1, this]
      · simp [hjk, hj1, e]
theorem am_lv_ext {ad ad' : Int → Nat} (n : Int) (he : ∀ x, x < n → ad' x = ad x) : ∀ (ls : List (Option am_V)) (i : Nat), (∀ v, some v ∈ ls → am_okV n v) → am_lv ad' i ls = am_lv ad i ls
  | [], i, _ => rfl
  | none :: t, i, h => am_lv_ext n he t (i + 1) (fun v hv => h v (List.mem_cons_of_mem _ hv))
  | some w :: t, i, h => by
    have hw := h w List.mem_cons_self
    have e : am_c ad' w = am_c ad w := by
      rcases w with x | x | x
      · rfl
      · rfl
      · show Value.ref (ad' x) = Value.ref (ad x)
        rw [he x hw]
    rw [am_lv, am_lv, e, am_lv_ext n he t (i + 1) (fun v hv => h v (List.mem_cons_of_mem _ hv))]
theorem am_c_ext {ad ad' : Int → Nat} {n : Int} (he : ∀ x, x < n → ad' x = ad x) {v : am_V} (h : am_okV n v) : am_c ad' v = am_c ad v := by
  rcases v with x | x | x
  · rfl
  · rfl
  · show Value.ref (ad' x) = Value.ref (ad x)
    rw [he x h]
theorem am_st_ext {ad ad' : Int → Nat} {n : Int} (he : ∀ x, x < n → ad' x = ad x) {st : List am_V} (h : ∀ v ∈ st, am_okV n v) : st.map (am_c ad') = st.map (am_c ad) :=
  List.map_congr_left fun v hv => am_c_ext he (h v hv)
theorem am_okV_mono {n n' : Int} (h : n ≤ n') {v : am_V} (hv : am_okV n v) : am_okV n' v := by
  rcases v with x | x | x
  · exact hv
  · exact hv
  · exact Int.lt_of_lt_of_le hv h
/-! the world -/
/-- of which kind a cell is: 0 .. 7 a class (vwCl), 8 a row of ints, 9 a row of sheets -/
def am_kinds : List Nat := [8, 6, 9, 4, 8, 4, 8, 4, 8, 4, 8, 3, 8, 8, 8, 3, 8, 8, 8, 0, 3, 8, 8, 8, 8, 8, 8, 8, 8, 5, 8, 8, 8, 2, 8, 8, 8, 1, 7]
def am_K (x : Int) : Nat := am_kinds.getD x.toNat 8
def am_N (ci : Nat) : Nat := [14, 3, 4, 5, 3, 5, 10, 32].getD ci 0
/-- which fields are ints -/
def am_isI (ci k : Nat) : Bool := match ci with
  | 0 => decide (6 ≤ k)
  | 1 => true
  | 2 => decide (k = 3)
  | 3 => decide (k < 2)
  | 4 => decide (k < 2)
  | 5 => decide (3 ≤ k)
  | 6 => decide (7 ≤ k)
  | _ => [0, 1, 2, 3, 6, 7, 8, 18, 19, 20, 21, 23, 31].contains k
def am_fv (ad : Int → Nat) (ρ h : am_H) (ci : Nat) (x : Int) (k : Nat) : Value :=
  if am_isI ci k = true then .int (Int32.ofInt (h x k)) else if ρ x k = 0 then .null else .ref (ad (ρ x k))
def am_E (cI cS : ClassId) (ad : Int → Nat) (ρ h : am_H) (x : Int) : va_E :=
  if am_K x = 8 then .inl (cI, ((ρ x (-1)).toNat, .inl (fun j => Int32.ofInt (h x j))))
  else if am_K x = 9 then .inl (cS, ((ρ x (-1)).toNat, .inr (.inr (.inr (.inr (fun j => if ρ x j = 0 then none else some (ad (ρ x j))))))))
  else .inr (am_K x, (List.range (am_N (am_K x))).map (am_fv ad ρ h (am_K x) x))
def am_ws (cI cS : ClassId) (ad : Int → Nat) (ρ h : am_H) : va_W := (List.range ((ρ 0 0).toNat - 1)).map (fun (j : Nat) => (ad ((j : Int) + 1), am_E cI cS ad ρ h ((j : Int) + 1)))
theorem am_ws_len (cI cS : ClassId) (ad : Int → Nat) (ρ h : am_H) : (am_ws cI cS ad ρ h).length = (ρ 0 0).toNat - 1 := by simp [am_ws]
theorem am_ws_get {cI cS : ClassId} {ad : Int → Nat} {ρ h : am_H} {x : Int} (h0 : 0 < x) (h1 : x < ρ 0 0) : (am_ws cI cS ad ρ h)[x.toNat - 1]? = some (ad x, am_E cI cS ad ρ h x) := by
  rw [am_ws, List.getElem?_map, List.getElem?_range (by omega)]
  have : ((x.toNat - 1 : Nat) : Int) + 1 = x := by omega
  simp [this]
theorem am_ws_at {cI cS : ClassId} {ad : Int → Nat} {ρ h : am_H} {k : Nat} {q : Nat × va_E} (hk : (am_ws cI cS ad ρ h)[k]? = some q) : (k : Int) + 1 < ρ 0 0 ∧ q = (ad ((k : Int) + 1), am_E cI cS ad ρ h ((k : Int) + 1)) := by
  have hl := (List.getElem?_eq_some_iff.mp hk).1
  rw [am_ws_len] at hl
  rw [am_ws, List.getElem?_map, List.getElem?_range (by omega)] at hk
  refine ⟨by omega, ?_⟩
  simpa using hk.symm
theorem am_ws_set {cI cS : ClassId} {ad : Int → Nat} {ρ h ρ' h' : am_H} {x : Int} (h0 : 0 < x) (hn : ρ' 0 0 = ρ 0 0) (he : ∀ y, 0 < y → y ≠ x → am_E cI cS ad ρ' h' y = am_E cI cS ad ρ h y) :
    am_ws cI cS ad ρ' h' = (am_ws cI cS ad ρ h).set (x.toNat - 1) (ad x, am_E cI cS ad ρ' h' x) := by
  apply List.ext_getElem?
  intro k
  by_cases hk : k < (ρ 0 0).toNat - 1
  · have hk' : k < (ρ' 0 0).toNat - 1 := by rw [hn]; exact hk
    have e1 : (am_ws cI cS ad ρ' h')[k]? = some (ad ((k : Int) + 1), am_E cI cS ad ρ' h' ((k : Int) + 1)) := by
      rw [am_ws, List.getElem?_map, List.getElem?_range hk']
      rfl
    have e2 : (am_ws cI cS ad ρ h)[k]? = some (ad ((k : Int) + 1), am_E cI cS ad ρ h ((k : Int) + 1)) := by
      rw [am_ws, List.getElem?_map, List.getElem?_range hk]
      rfl
    rw [e1]
    by_cases hx : k = x.toNat - 1
    · have : (k : Int) + 1 = x := by omega
      rw [hx, List.getElem?_set_self (by rw [am_ws_len]; omega), ← hx, this]
    · rw [List.getElem?_set_ne (Ne.symm hx), e2, he _ (by omega) (by omega)]
  · rw [List.getElem?_eq_none (by rw [am_ws_len, hn]; omega), List.getElem?_eq_none (by rw [List.length_set, am_ws_len]; omega)]
theorem am_ws_push {cI cS : ClassId} {ad ad' : Int → Nat} {ρ h ρ' h' : am_H} (h0 : 0 < ρ 0 0) (hn : ρ' 0 0 = ρ 0 0 + 1) (ha : ∀ y, y < ρ 0 0 → ad' y = ad y) (he : ∀ y, 0 < y → y < ρ 0 0 → am_E cI cS ad' ρ' h' y = am_E cI cS ad ρ h y) :
    am_ws cI cS ad' ρ' h' = am_ws cI cS ad ρ h ++ [(ad' (ρ 0 0), am_E cI cS ad' ρ' h' (ρ 0 0))] := by
  rw [am_ws, hn, show (ρ 0 0 + 1).toNat - 1 = ((ρ 0 0).toNat - 1) + 1 by omega, List.range_succ, List.map_append]
  congr 1
  · rw [am_ws]
    apply List.map_congr_left
    intro j hj
    have hj := List.mem_range.mp hj
    rw [ha _ (by omega), he _ (by omega) (by omega)]
  · have : (((ρ 0 0).toNat - 1 : Nat) : Int) + 1 = ρ 0 0 := by omega
    simp [this]
/-- one place written anew -/
def am_u (h : am_H) (x k v : Int) : am_H := fun y j => if y = x ∧ j = k then v else h y j
theorem am_u_s (h : am_H) (x k v : Int) : am_u h x k v x k = v := by simp [am_u]
theorem am_u_n {h : am_H} {x k v y j : Int} (e : ¬ (y = x ∧ j = k)) : am_u h x k v y j = h y j := by simp [am_u, e]
/-- a new cell -/
def am_newR (ρ : am_H) (len : Int) : am_H := fun y j => if y = ρ 0 0 then (if j = -1 then len else 0) else if y = 0 ∧ j = 0 then ρ 0 0 + 1 else ρ y j
def am_newH (ρ h : am_H) : am_H := fun y j => if y = ρ 0 0 then 0 else h y j
def am_rng (ρ h : am_H) : Prop := 0 < ρ 0 0 ∧ (∀ x k, am_okI (h x k)) ∧ (∀ x, 0 ≤ ρ x (-1) ∧ ρ x (-1) < 2147483648) ∧ ∀ x k, 0 < x → 0 ≤ k → 0 ≤ ρ x k ∧ ρ x k < ρ 0 0
theorem am_E_ext {cI cS : ClassId} {ad ad' : Int → Nat} {ρ h ρ' h' : am_H} {x n : Int} (hx : 0 < x) (hn : ∀ k, 0 ≤ k → ρ x k < n) (ha : ∀ y, y < n → ad' y = ad y) (e1 : ∀ k, ρ' x k = ρ x k) (e2 : ∀ k, 0 ≤ k → h' x k = h x k) : am_E cI cS ad' ρ' h' x = am_E cI cS ad ρ h x := by
  unfold am_E
  split
  · rw [e1]
    congr 3
    congr 1
    funext j
    rw [e2 j (by omega)]
  · split
    · have e3 : (fun j : Nat => if ρ' x j = 0 then none else some (ad' (ρ' x j))) = (fun j : Nat => if ρ x j = 0 then none else some (ad (ρ x j))) := funext fun j => by rw [e1, ha _ (hn j (by omega))]
      rw [e1, e3]
    · congr 2
      apply List.map_congr_left
      intro k _
      unfold am_fv
      rw [e1, e2 k (by omega), ha _ (hn k (by omega))]
theorem am_map_set {α : Type} (f g : Nat → α) (N k : Nat) (v : α) (hv : g k = v) (he : ∀ j, j ≠ k → g j = f j) : (List.range N).map g = ((List.range N).map f).set k v := by
  apply List.ext_getElem?
  intro j
  by_cases hj : j < N
  · rw [List.getElem?_map, List.getElem?_range hj]
    by_cases e : j = k
    · subst e
      rw [List.getElem?_set_self (by simpa using hj)]
      simp [hv]
    · rw [List.getElem?_set_ne (Ne.symm e), List.getElem?_map, List.getElem?_range hj]
      simp [he j e]
  · rw [List.getElem?_eq_none (by simpa using hj), List.getElem?_eq_none (by simpa using hj)]
end
section
/-! THE JUDGEMENT: from a place in a method, with these locals, this stack, this world, the method comes to its end with Q -/
/-- the words of nest mates, and the class of rows of sheets -/
def am_X (U : State) : Prop := (∀ w ∈ am_nest, va_Nw w U) ∧ va_AO RX4 U
theorem am_nestw : ∀ w ∈ am_nest, ∃ (a : String) (i : Nat) (x : MethodName) (h : String), w = .methodLinkNest a i x h := by
  intro w hw
  simp only [am_nest, List.mem_cons, List.not_mem_nil, or_false] at hw
  rcases hw with rfl | rfl | rfl | rfl | rfl | rfl | rfl <;> exact ⟨_, _, _, _, rfl⟩
theorem am_X.warm {s U : State} (hW : s.WarmedH U.vm) (h : am_X s) : am_X U := by
  refine ⟨fun w hw => ?_, va_AO.moved hW.alike h.2⟩
  have h1 := h.1 w hw
  obtain ⟨a, i, x, hh, rfl⟩ := am_nestw w hw
  exact va_Nw.warmM hW h1
theorem am_X.same {u U : State} (e : u.vm = U.vm) (h : am_X u) : am_X U := by
  refine ⟨fun w hw => ?_, va_AO.moved (by rw [e]; exact Vm.Alike.refl _) h.2⟩
  have h1 := h.1 w hw
  obtain ⟨a, i, x, hh, rfl⟩ := am_nestw w hw
  exact va_Nw.same rfl e h1
def am_Sc (S : Option (Nat × (Int → Int))) (A : Nat → Prop) (s : State) (b : Nat) : Prop := match S with
  | none => True
  | some (L, xs) => va_X b L (fun j => Int32.ofInt (xs j)) s s.heap ∧ b < s.heap.size ∧ ¬ A b ∧ L < 2147483648 ∧ ∀ j, am_okI (xs j)
def am_Rl (D : va_G) (cI cS : ClassId) (A : Nat → Prop) (s : State) (n0 : Int) (ad0 ad : Int → Nat) (ρ h : am_H) (H : Heap) (locs : List Loc) : Prop :=
  am_rng ρ h ∧ n0 ≤ ρ 0 0 ∧ (∀ x, x < n0 → ad x = ad0 x) ∧ va_P D vwCl (am_ws cI cS ad ρ h) H ∧ va_D A (am_ws cI cS ad ρ h) ∧ va_S A s.heap H locs
def am_rt (M : am_M) (pc : Nat) (r : Option am_V) : Prop :=
  (r = none ∧ M.2.2.2.1 = none ∧ decode M.2.1 pc = .ok (.return_, 1)) ∨ (∃ v, r = some (am_I v) ∧ M.2.2.2.1 = some .int ∧ decode M.2.1 pc = .ok (.ireturn, 1)) ∨
  (∃ v, r = some (am_I v) ∧ (v = 0 ∨ v = 1) ∧ M.2.2.2.1 = some .boolean ∧ decode M.2.1 pc = .ok (.ireturn, 1)) ∨ (∃ v, r = some (am_L v) ∧ M.2.2.2.1 = some .long ∧ decode M.2.1 pc = .ok (.lreturn, 1))
def am_Fx (M : am_M) (p : Program) (R : Room) (s : State) (m : MethodId) (args : Array Value) (meth : Method) (c : Code) (D : va_G) (cI cS : ClassId) (A : Nat → Prop) (n0 : Int) (ad0 : Int → Nat) : Prop :=
  (p.tables.exec = Jvm.exec ∧ c.code = M.2.1 ∧ c.maxLocals = M.2.2.1 ∧ s.vm.findClass M.1.cls = some m.cls) ∧ (∀ w, am_T w → w.before args s = true) ∧ (M.1.name = "<init>" → meth.name = "<init>") ∧
  va_K D vwCl [(cI, .int), (cS, .object RX4)] s ∧ (∀ q, s.heap.size ≤ q → A q) ∧ R.frames = M.2.2.2.2.1 ∧ R.locals = 36 * M.2.2.2.2.1 ∧ 0 < n0 ∧ am_Sc M.2.2.2.2.2 A s (ad0 (-1)) ∧ am_X s
def am_Cx (M : am_M) (Q : am_Q) (p : Program) (l : Launch) (e : Env) (R : Room) (s : State) (m : MethodId) (args : Array Value) (below : List Frame) (meth : Method) (c : Code) (Z : State → Prop) (D : va_G) (cI cS : ClassId) (A : Nat → Prop) (n0 : Int) (ad0 : Int → Nat) : Prop :=
  am_Fx M p R s m args meth c D cI cS A n0 ad0 ∧
  ∀ (r : Option am_V) (ρ h : am_H) (ad : Int → Nat) (H : Heap) (locs : List Loc) (cells slots : Nat) (lc : Array Slot) (pc : Nat), Q r ρ h → am_rt M pc r → am_Rl D cI cS A s n0 ad0 ad ρ h H locs → (∀ v, r = some v → am_okV (ρ 0 0) v) → cells ≤ R.cells → slots ≤ R.slots →
    W p l e R s m args below meth c H locs cells slots Z (F0 m pc lc (r.toList.map (am_c ad)))
def am_WP (M : am_M) (bc bs pc : Nat) (ls : List (Option am_V)) (st : List am_V) (ρ h : am_H) (Q : am_Q) : Prop :=
  ∀ (p : Program) (l : Launch) (e : Env) (R : Room) (s : State) (m : MethodId) (args : Array Value) (below : List Frame) (meth : Method) (c : Code) (Z : State → Prop) (D : va_G) (cI cS : ClassId) (A : Nat → Prop) (n0 : Int) (ad0 : Int → Nat),
    am_Cx M Q p l e R s m args below meth c Z D cI cS A n0 ad0 →
  ∀ (ad : Int → Nat) (H : Heap) (locs : List Loc) (cells slots : Nat) (lc : Array Slot), am_Rl D cI cS A s n0 ad0 ad ρ h H locs → (∀ v ∈ st, am_okV (ρ 0 0) v) → (∀ v, some v ∈ ls → am_okV (ρ 0 0) v) →
    lv_has lc M.2.2.1 (am_lv ad 0 ls) → cells + bc ≤ R.cells → slots + bs ≤ R.slots → W p l e R s m args below meth c H locs cells slots Z (F0 m pc lc (st.map (am_c ad)))
section AMR
variable {M : am_M} {bc bs pc pc' : Nat} {ls ls' : List (Option am_V)} {st st' : List am_V} {ρ h : am_H} {Q : am_Q}
/-- a step that moves the stack alone -/
theorem am_stk (hstep : ∀ (p : Program) (l : Launch) (e : Env) (R : Room) (s : State) (m : MethodId) (args : Array Value) (below : List Frame) (meth : Method) (c : Code) (H : Heap) (locs : List Loc) (cells slots : Nat) (Z : State → Prop) (lc : Array Slot) (ad : Int → Nat),
      p.tables.exec = Jvm.exec → c.code = M.2.1 → s.vm.findClass M.1.cls = some m.cls → (∀ w, am_T w → w.before args s = true) → (∀ v ∈ st, am_okV (ρ 0 0) v) → (∀ v, some v ∈ ls → am_okV (ρ 0 0) v) → lv_has lc M.2.2.1 (am_lv ad 0 ls) →
      W p l e R s m args below meth c H locs cells slots Z (F0 m pc' lc (st'.map (am_c ad))) → W p l e R s m args below meth c H locs cells slots Z (F0 m pc lc (st.map (am_c ad))))
    (hok : (∀ v ∈ st, am_okV (ρ 0 0) v) → (∀ v, some v ∈ ls → am_okV (ρ 0 0) v) → ∀ v ∈ st', am_okV (ρ 0 0) v) (k : am_WP M bc bs pc' ls st' ρ h Q) : am_WP M bc bs pc ls st ρ h Q := by
  intro p l e R s m args below meth c Z D cI cS A n0 ad0 C ad H locs cells slots lc rl os ol hl hc hs
  exact hstep p l e R s m args below meth c H locs cells slots Z lc ad C.1.1.1 C.1.1.2.1 C.1.1.2.2.2 C.1.2.1 os ol hl (k p l e R s m args below meth c Z D cI cS A n0 ad0 C ad H locs cells slots lc rl (hok os ol) ol hl hc hs)
theorem am_ok1 {n : Int} {a : am_V} {t : List am_V} (ha : am_okV n a) (h : ∀ v ∈ t, am_okV n v) : ∀ v ∈ a :: t, am_okV n v := fun v hv => by
  rcases List.mem_cons.mp hv with rfl | hv
  · exact ha
  · exact h v hv
theorem am_okI1 {n x : Int} {t : List am_V} (hx : am_okI x) (h : ∀ v ∈ t, am_okV n v) : ∀ v ∈ am_I x :: t, am_okV n v := am_ok1 (a := am_I x) hx h
theorem am_okL1 {n x : Int} {t : List am_V} (hx : am_okJ x) (h : ∀ v ∈ t, am_okV n v) : ∀ v ∈ am_L x :: t, am_okV n v := am_ok1 (a := am_L x) hx h
theorem am_okR1 {n x : Int} {t : List am_V} (hx : x < n) (h : ∀ v ∈ t, am_okV n v) : ∀ v ∈ am_R x :: t, am_okV n v := am_ok1 (a := am_R x) hx h
theorem am_okt {n : Int} {a : am_V} {t : List am_V} (h : ∀ v ∈ a :: t, am_okV n v) : ∀ v ∈ t, am_okV n v := fun v hv => h v (List.mem_cons_of_mem _ hv)
theorem am_okh {n : Int} {a : am_V} {t : List am_V} (h : ∀ v ∈ a :: t, am_okV n v) : am_okV n a := h a List.mem_cons_self
theorem am_iconst {n : Int} (hd : decode M.2.1 pc = .ok (.iconst n, 1)) (hp : pc + 1 = pc') (hn : (decide (-2147483648 ≤ n) && decide (n < 2147483648)) = true) (k : am_WP M bc bs pc' ls (am_I n :: st) ρ h Q) : am_WP M bc bs pc ls st ρ h Q := by
  subst hp
  refine am_stk (fun p l e R s m args below meth c H locs cells slots Z lc ad hx hb _ _ os ol hl k => lv_iconst hx hb hd rfl k) (fun os _ => am_okI1 ?_ os) k
  simpa [am_okI] using hn
theorem am_bipush {n : Int} (hd : decode M.2.1 pc = .ok (.bipush n, 2)) (hp : pc + 2 = pc') (hn : (decide (-128 ≤ n) && decide (n < 128)) = true) (hv : (Int8.ofInt n).toInt32 = Int32.ofInt n) (k : am_WP M bc bs pc' ls (am_I n :: st) ρ h Q) : am_WP M bc bs pc ls st ρ h Q := by
  subst hp
  refine am_stk (fun p l e R s m args below meth c H locs cells slots Z lc ad hx hb _ _ os ol hl k => lv_bipush hx hb hd hv k) (fun os _ => am_okI1 ?_ os) k
  simp at hn
  exact ⟨by omega, by omega⟩
theorem am_sipush {n : Int} (hd : decode M.2.1 pc = .ok (.sipush n, 3)) (hp : pc + 3 = pc') (hn : (decide (-32768 ≤ n) && decide (n < 32768)) = true) (hv : (Int16.ofInt n).toInt32 = Int32.ofInt n) (k : am_WP M bc bs pc' ls (am_I n :: st) ρ h Q) : am_WP M bc bs pc ls st ρ h Q := by
  subst hp
  refine am_stk (fun p l e R s m args below meth c H locs cells slots Z lc ad hx hb _ _ os ol hl k => lv_sipush hx hb hd hv k) (fun os _ => am_okI1 ?_ os) k
  simp at hn
  exact ⟨by omega, by omega⟩
theorem am_lconst0 (hd : decode M.2.1 pc = .ok (.lconst 0, 1)) (hp : pc + 1 = pc') (k : am_WP M bc bs pc' ls (am_L 0 :: st) ρ h Q) : am_WP M bc bs pc ls st ρ h Q := by
  subst hp
  exact am_stk (fun p l e R s m args below meth c H locs cells slots Z lc ad hx hb _ _ os ol hl k => lv_lconst hx hb hd rfl k) (fun os _ => am_okL1 ⟨by decide, by decide⟩ os) k
theorem am_lconst1 (hd : decode M.2.1 pc = .ok (.lconst 1, 1)) (hp : pc + 1 = pc') (k : am_WP M bc bs pc' ls (am_L 1 :: st) ρ h Q) : am_WP M bc bs pc ls st ρ h Q := by
  subst hp
  exact am_stk (fun p l e R s m args below meth c H locs cells slots Z lc ad hx hb _ _ os ol hl k => lv_lconst hx hb hd rfl k) (fun os _ => am_okL1 ⟨by decide, by decide⟩ os) k
theorem am_ldcw {x : Int} {idx : Nat} {v : Int32} (hd : decode M.2.1 pc = .ok (.ldc_w idx, 3)) (hp : pc + 3 = pc') (hk : am_T (.constant M.1.cls idx v)) (hv : v = Int32.ofInt x) (hn : (decide (-2147483648 ≤ x) && decide (x < 2147483648)) = true) (k : am_WP M bc bs pc' ls (am_I x :: st) ρ h Q) : am_WP M bc bs pc ls st ρ h Q := by
  subst hp
  subst hv
  refine am_stk (fun p l e R s m args below meth c H locs cells slots Z lc ad hx hb ho ht os ol hl k => lv_ldcw hx hb ho (ht _ hk) hd k) (fun os _ => am_okI1 ?_ os) k
  simpa [am_okI] using hn
theorem am_ldc2 {x : Int} {idx : Nat} {v : Int64} (hd : decode M.2.1 pc = .ok (.ldc2_w idx, 3)) (hp : pc + 3 = pc') (hk : am_T (.constantLong M.1.cls idx v)) (hv : v = Int64.ofInt x) (hn : (decide (-9223372036854775808 ≤ x) && decide (x < 9223372036854775808)) = true) (k : am_WP M bc bs pc' ls (am_L x :: st) ρ h Q) : am_WP M bc bs pc ls st ρ h Q := by
  subst hp
  subst hv
  refine am_stk (fun p l e R s m args below meth c H locs cells slots Z lc ad hx hb ho ht os ol hl k => lv_ldc2 hx hb ho (ht _ hk) hd k) (fun os _ => am_okL1 ?_ os) k
  simpa [am_okJ] using hn
theorem am_iload_n {q : Fin 4} {i : Nat} {x : Int} (hd : decode M.2.1 pc = .ok (.iload_n q, 1)) (hp : pc + 1 = pc') (hi : (q : Nat) = i) (hl : ls[i]? = some (some (am_I x))) (k : am_WP M bc bs pc' ls (am_I x :: st) ρ h Q) : am_WP M bc bs pc ls st ρ h Q := by
  subst hp
  exact am_stk (fun p l e R s m args below meth c H locs cells slots Z lc ad hx hb _ _ os ol hv k => lv_iload_n hx hb hd hi (am_lv_at hv hl) k) (fun os ol => am_ok1 (ol _ (List.mem_of_getElem? hl)) os) k
theorem am_iload {i : Nat} {x : Int} (hd : decode M.2.1 pc = .ok (.iload i, 2)) (hp : pc + 2 = pc') (hl : ls[i]? = some (some (am_I x))) (k : am_WP M bc bs pc' ls (am_I x :: st) ρ h Q) : am_WP M bc bs pc ls st ρ h Q := by
  subst hp
  exact am_stk (fun p l e R s m args below meth c H locs cells slots Z lc ad hx hb _ _ os ol hv k => lv_iload hx hb hd (am_lv_at hv hl) k) (fun os ol => am_ok1 (ol _ (List.mem_of_getElem? hl)) os) k
theorem am_lload_n {q : Fin 4} {i : Nat} {x : Int} (hd : decode M.2.1 pc = .ok (.lload_n q, 1)) (hp : pc + 1 = pc') (hi : (q : Nat) = i) (hl : ls[i]? = some (some (am_L x))) (k : am_WP M bc bs pc' ls (am_L x :: st) ρ h Q) : am_WP M bc bs pc ls st ρ h Q := by
  subst hp
  exact am_stk (fun p l e R s m args below meth c H locs cells slots Z lc ad hx hb _ _ os ol hv k => lv_lload_n hx hb hd hi (am_lv_at hv hl) k) (fun os ol => am_ok1 (ol _ (List.mem_of_getElem? hl)) os) k
theorem am_lload {i : Nat} {x : Int} (hd : decode M.2.1 pc = .ok (.lload i, 2)) (hp : pc + 2 = pc') (hl : ls[i]? = some (some (am_L x))) (k : am_WP M bc bs pc' ls (am_L x :: st) ρ h Q) : am_WP M bc bs pc ls st ρ h Q := by
  subst hp
  exact am_stk (fun p l e R s m args below meth c H locs cells slots Z lc ad hx hb _ _ os ol hv k => lv_lload hx hb hd (am_lv_at hv hl) k) (fun os ol => am_ok1 (ol _ (List.mem_of_getElem? hl)) os) k
theorem am_aload_n {q : Fin 4} {i : Nat} {x : Int} (hd : decode M.2.1 pc = .ok (.aload_n q, 1)) (hp : pc + 1 = pc') (hi : (q : Nat) = i) (hl : ls[i]? = some (some (am_R x))) (k : am_WP M bc bs pc' ls (am_R x :: st) ρ h Q) : am_WP M bc bs pc ls st ρ h Q := by
  subst hp
  exact am_stk (fun p l e R s m args below meth c H locs cells slots Z lc ad hx hb _ _ os ol hv k => lv_aload_n hx hb hd hi (am_lv_at hv hl) k) (fun os ol => am_ok1 (ol _ (List.mem_of_getElem? hl)) os) k
theorem am_aload {i : Nat} {x : Int} (hd : decode M.2.1 pc = .ok (.aload i, 2)) (hp : pc + 2 = pc') (hl : ls[i]? = some (some (am_R x))) (k : am_WP M bc bs pc' ls (am_R x :: st) ρ h Q) : am_WP M bc bs pc ls st ρ h Q := by
  subst hp
  exact am_stk (fun p l e R s m args below meth c H locs cells slots Z lc ad hx hb _ _ os ol hv k => lv_aload hx hb hd (am_lv_at hv hl) k) (fun os ol => am_ok1 (ol _ (List.mem_of_getElem? hl)) os) k
/-! numbers -/
theorem am_iadd {a b : Int} (hd : decode M.2.1 pc = .ok (.iadd, 1)) (hp : pc + 1 = pc') (hr : am_okI (a + b)) (k : am_WP M bc bs pc' ls (am_I (a + b) :: st) ρ h Q) : am_WP M bc bs pc ls (am_I b :: am_I a :: st) ρ h Q := by
  subst hp
  refine am_stk (fun p l e R s m args below meth c H locs cells slots Z lc ad hx hb _ _ os ol hl k => lv_iadd hx hb hd ?_) (fun os _ => am_okI1 hr (am_okt (am_okt os))) k
  rw [← Int32.ofInt_add]; exact k
theorem am_iaddw {a b : Int} (hd : decode M.2.1 pc = .ok (.iadd, 1)) (hp : pc + 1 = pc') (k : am_WP M bc bs pc' ls (am_I (am_w (a + b)) :: st) ρ h Q) : am_WP M bc bs pc ls (am_I b :: am_I a :: st) ρ h Q := by
  subst hp
  refine am_stk (fun p l e R s m args below meth c H locs cells slots Z lc ad hx hb _ _ os ol hl k => lv_iadd hx hb hd ?_) (fun os _ => am_okI1 (am_w_ok _) (am_okt (am_okt os))) k
  rw [← Int32.ofInt_add, ← am_w_of]; exact k
theorem am_isub {a b : Int} (hd : decode M.2.1 pc = .ok (.isub, 1)) (hp : pc + 1 = pc') (hr : am_okI (a - b)) (k : am_WP M bc bs pc' ls (am_I (a - b) :: st) ρ h Q) : am_WP M bc bs pc ls (am_I b :: am_I a :: st) ρ h Q := by
  subst hp
  refine am_stk (fun p l e R s m args below meth c H locs cells slots Z lc ad hx hb _ _ os ol hl k => lv_isub hx hb hd ?_) (fun os _ => am_okI1 hr (am_okt (am_okt os))) k
  rw [← Int32.ofInt_sub]; exact k
theorem am_isubw {a b : Int} (hd : decode M.2.1 pc = .ok (.isub, 1)) (hp : pc + 1 = pc') (k : am_WP M bc bs pc' ls (am_I (am_w (a - b)) :: st) ρ h Q) : am_WP M bc bs pc ls (am_I b :: am_I a :: st) ρ h Q := by
  subst hp
  refine am_stk (fun p l e R s m args below meth c H locs cells slots Z lc ad hx hb _ _ os ol hl k => lv_isub hx hb hd ?_) (fun os _ => am_okI1 (am_w_ok _) (am_okt (am_okt os))) k
  rw [← Int32.ofInt_sub, ← am_w_of]; exact k
theorem am_imul {a b : Int} (hd : decode M.2.1 pc = .ok (.imul, 1)) (hp : pc + 1 = pc') (hr : am_okI (a * b)) (k : am_WP M bc bs pc' ls (am_I (a * b) :: st) ρ h Q) : am_WP M bc bs pc ls (am_I b :: am_I a :: st) ρ h Q := by
  subst hp
  refine am_stk (fun p l e R s m args below meth c H locs cells slots Z lc ad hx hb _ _ os ol hl k => lv_imul hx hb hd ?_) (fun os _ => am_okI1 hr (am_okt (am_okt os))) k
  rw [← Int32.ofInt_mul]; exact k
theorem am_imulw {a b : Int} (hd : decode M.2.1 pc = .ok (.imul, 1)) (hp : pc + 1 = pc') (k : am_WP M bc bs pc' ls (am_I (am_w (a * b)) :: st) ρ h Q) : am_WP M bc bs pc ls (am_I b :: am_I a :: st) ρ h Q := by
  subst hp
  refine am_stk (fun p l e R s m args below meth c H locs cells slots Z lc ad hx hb _ _ os ol hl k => lv_imul hx hb hd ?_) (fun os _ => am_okI1 (am_w_ok _) (am_okt (am_okt os))) k
  rw [← Int32.ofInt_mul, ← am_w_of]; exact k
theorem am_ineg {a : Int} (hd : decode M.2.1 pc = .ok (.ineg, 1)) (hp : pc + 1 = pc') (hr : am_okI (-a)) (k : am_WP M bc bs pc' ls (am_I (-a) :: st) ρ h Q) : am_WP M bc bs pc ls (am_I a :: st) ρ h Q := by
  subst hp
  refine am_stk (fun p l e R s m args below meth c H locs cells slots Z lc ad hx hb _ _ os ol hl k => lv_ineg hx hb hd ?_) (fun os _ => am_okI1 hr (am_okt os)) k
  rw [← Int32.ofInt_neg]; exact k
end AMR
end
section
/-! more numbers, branches, locals -/
theorem am_divE {a b : Int} (ha : am_okI a) (hb : am_okI b) (h0 : 0 ≤ a) (h1 : 0 < b) : Int32.ofInt a / Int32.ofInt b = Int32.ofInt (a / b) := by
  apply Int32.toInt_inj.mp
  rw [Int32.toInt_div, am_toInt ha, am_toInt hb, Int.tdiv_eq_ediv_of_nonneg h0, Int32.toInt_ofInt]
theorem am_divL {a b : Int} (ha : am_okJ a) (hb : am_okJ b) (h0 : 0 ≤ a) (h1 : 0 < b) : Int64.ofInt a / Int64.ofInt b = Int64.ofInt (a / b) := by
  apply Int64.toInt_inj.mp
  rw [Int64.toInt_div, am_toIntJ ha, am_toIntJ hb, Int.tdiv_eq_ediv_of_nonneg h0, Int64.toInt_ofInt]
theorem am_ne0 {b : Int} (hb : am_okI b) (h1 : 0 < b) : ¬ Int32.ofInt b = 0 := by
  rw [← am_0, am_inj hb am_ok0]; omega
theorem am_okJ0 : am_okJ 0 := ⟨by decide, by decide⟩
theorem am_0J : Int64.ofInt 0 = 0 := by decide
theorem am_ne0J {b : Int} (hb : am_okJ b) (h1 : 0 < b) : ¬ Int64.ofInt b = 0 := by
  rw [← am_0J, am_injJ hb am_okJ0]; omega
theorem am_okdiv {a b : Int} (ha : am_okI a) (h0 : 0 ≤ a) (h1 : 0 < b) : am_okI (a / b) := ⟨by have := Int.ediv_nonneg h0 (Int.le_of_lt h1); omega, by have := Int.ediv_le_self b h0; have := ha.2; omega⟩
theorem am_okdivJ {a b : Int} (ha : am_okJ a) (h0 : 0 ≤ a) (h1 : 0 < b) : am_okJ (a / b) := ⟨by have := Int.ediv_nonneg h0 (Int.le_of_lt h1); omega, by have := Int.ediv_le_self b h0; have := ha.2; omega⟩
theorem am_okmod {a b : Int} (hb : am_okI b) (h1 : 0 < b) : am_okI (a % b) := ⟨by have := Int.emod_nonneg a (by omega : b ≠ 0); omega, by have := Int.emod_lt_of_pos a h1; have := hb.2; omega⟩
theorem am_okmodJ {a b : Int} (hb : am_okJ b) (h1 : 0 < b) : am_okJ (a % b) := ⟨by have := Int.emod_nonneg a (by omega : b ≠ 0); omega, by have := Int.emod_lt_of_pos a h1; have := hb.2; omega⟩
theorem am_shlE : ∀ n : Fin 31, Int32.ofInt 1 <<< (Int32.ofInt (n : Nat) &&& 31) = Int32.ofInt ((2 ^ (n : Nat) : Nat) : Int) := by decide +kernel
theorem am_orE : ∀ a b : Fin 64, Int32.ofInt (a : Nat) ||| Int32.ofInt (b : Nat) = Int32.ofInt (((a : Nat) ||| (b : Nat) : Nat) : Int) := by decide +kernel
theorem am_orb : ∀ a b : Fin 64, ((a : Nat) ||| (b : Nat)) < 64 := by decide +kernel
theorem am_and1 : ∀ a : Fin 64, Int32.ofInt (a : Nat) &&& Int32.ofInt 1 = Int32.ofInt ((a : Nat) % 2 : Nat) := by decide +kernel
theorem am_shr1 : ∀ a : Fin 64, Int32.ofInt (a : Nat) >>> (Int32.ofInt 1 &&& 31) = Int32.ofInt ((a : Nat) / 2 : Nat) := by decide +kernel
section AMR
variable {M : am_M} {bc bs pc pc' : Nat} {ls ls' : List (Option am_V)} {st st' : List am_V} {ρ h : am_H} {Q : am_Q}
theorem am_idiv {a b : Int} (hd : decode M.2.1 pc = .ok (.idiv, 1)) (hp : pc + 1 = pc') (h0 : 0 ≤ a) (h1 : 0 < b) (k : am_WP M bc bs pc' ls (am_I (a / b) :: st) ρ h Q) : am_WP M bc bs pc ls (am_I b :: am_I a :: st) ρ h Q := by
  subst hp
  refine am_stk (fun p l e R s m args below meth c H locs cells slots Z lc ad hx hb _ _ os ol hl k => lv_idiv hx hb hd (am_ne0 (am_okh os) h1) ?_) (fun os _ => am_okI1 (am_okdiv (am_okh (am_okt os)) h0 h1) (am_okt (am_okt os))) k
  rw [am_divE (am_okh (am_okt os)) (am_okh os) h0 h1]; exact k
theorem am_irem {a b : Int} (hd : decode M.2.1 pc = .ok (.irem, 1)) (hp : pc + 1 = pc') (h0 : 0 ≤ a) (h1 : 0 < b) (k : am_WP M bc bs pc' ls (am_I (a % b) :: st) ρ h Q) : am_WP M bc bs pc ls (am_I b :: am_I a :: st) ρ h Q := by
  subst hp
  refine am_stk (fun p l e R s m args below meth c H locs cells slots Z lc ad hx hb _ _ os ol hl k => lv_irem hx hb hd (am_ne0 (am_okh os) h1) ?_) (fun os _ => am_okI1 (am_okmod (am_okh os) h1) (am_okt (am_okt os))) k
  rw [am_divE (am_okh (am_okt os)) (am_okh os) h0 h1, ← Int32.ofInt_mul, ← Int32.ofInt_sub, show a - a / b * b = a % b by rw [Int.emod_def, Int.mul_comm]]; exact k
theorem am_ldiv {a b : Int} (hd : decode M.2.1 pc = .ok (.ldiv, 1)) (hp : pc + 1 = pc') (h0 : 0 ≤ a) (h1 : 0 < b) (k : am_WP M bc bs pc' ls (am_L (a / b) :: st) ρ h Q) : am_WP M bc bs pc ls (am_L b :: am_L a :: st) ρ h Q := by
  subst hp
  refine am_stk (fun p l e R s m args below meth c H locs cells slots Z lc ad hx hb _ _ os ol hl k => lv_ldiv hx hb hd (am_ne0J (am_okh os) h1) ?_) (fun os _ => am_okL1 (am_okdivJ (am_okh (am_okt os)) h0 h1) (am_okt (am_okt os))) k
  rw [am_divL (am_okh (am_okt os)) (am_okh os) h0 h1]; exact k
theorem am_lrem {a b : Int} (hd : decode M.2.1 pc = .ok (.lrem, 1)) (hp : pc + 1 = pc') (h0 : 0 ≤ a) (h1 : 0 < b) (k : am_WP M bc bs pc' ls (am_L (a % b) :: st) ρ h Q) : am_WP M bc bs pc ls (am_L b :: am_L a :: st) ρ h Q := by
  subst hp
  refine am_stk (fun p l e R s m args below meth c H locs cells slots Z lc ad hx hb _ _ os ol hl k => lv_lrem hx hb hd (am_ne0J (am_okh os) h1) ?_) (fun os _ => am_okL1 (am_okmodJ (am_okh os) h1) (am_okt (am_okt os))) k
  rw [am_divL (am_okh (am_okt os)) (am_okh os) h0 h1, ← Int64.ofInt_mul, ← Int64.ofInt_sub, show a - a / b * b = a % b by rw [Int.emod_def, Int.mul_comm]]; exact k
theorem am_ladd {a b : Int} (hd : decode M.2.1 pc = .ok (.ladd, 1)) (hp : pc + 1 = pc') (hr : am_okJ (a + b)) (k : am_WP M bc bs pc' ls (am_L (a + b) :: st) ρ h Q) : am_WP M bc bs pc ls (am_L b :: am_L a :: st) ρ h Q := by
  subst hp
  refine am_stk (fun p l e R s m args below meth c H locs cells slots Z lc ad hx hb _ _ os ol hl k => lv_ladd hx hb hd ?_) (fun os _ => am_okL1 hr (am_okt (am_okt os))) k
  rw [← Int64.ofInt_add]; exact k
theorem am_lsub {a b : Int} (hd : decode M.2.1 pc = .ok (.lsub, 1)) (hp : pc + 1 = pc') (hr : am_okJ (a - b)) (k : am_WP M bc bs pc' ls (am_L (a - b) :: st) ρ h Q) : am_WP M bc bs pc ls (am_L b :: am_L a :: st) ρ h Q := by
  subst hp
  refine am_stk (fun p l e R s m args below meth c H locs cells slots Z lc ad hx hb _ _ os ol hl k => lv_lsub hx hb hd ?_) (fun os _ => am_okL1 hr (am_okt (am_okt os))) k
  rw [← Int64.ofInt_sub]; exact k
theorem am_lmul {a b : Int} (hd : decode M.2.1 pc = .ok (.lmul, 1)) (hp : pc + 1 = pc') (hr : am_okJ (a * b)) (k : am_WP M bc bs pc' ls (am_L (a * b) :: st) ρ h Q) : am_WP M bc bs pc ls (am_L b :: am_L a :: st) ρ h Q := by
  subst hp
  refine am_stk (fun p l e R s m args below meth c H locs cells slots Z lc ad hx hb _ _ os ol hl k => lv_lmul hx hb hd ?_) (fun os _ => am_okL1 hr (am_okt (am_okt os))) k
  rw [← Int64.ofInt_mul]; exact k
theorem am_land {a b : Int} (hd : decode M.2.1 pc = .ok (.land, 1)) (hp : pc + 1 = pc') (k : am_WP M bc bs pc' ls (am_L (Int64.ofInt a &&& Int64.ofInt b).toInt :: st) ρ h Q) : am_WP M bc bs pc ls (am_L b :: am_L a :: st) ρ h Q := by
  subst hp
  refine am_stk (fun p l e R s m args below meth c H locs cells slots Z lc ad hx hb _ _ os ol hl k => lv_land hx hb hd ?_) (fun os _ => am_okL1 (am_okwJ _) (am_okt (am_okt os))) k
  rw [← Int64.ofInt_toInt (Int64.ofInt a &&& Int64.ofInt b)]; exact k
theorem am_lor {a b : Int} (hd : decode M.2.1 pc = .ok (.lor, 1)) (hp : pc + 1 = pc') (k : am_WP M bc bs pc' ls (am_L (Int64.ofInt a ||| Int64.ofInt b).toInt :: st) ρ h Q) : am_WP M bc bs pc ls (am_L b :: am_L a :: st) ρ h Q := by
  subst hp
  refine am_stk (fun p l e R s m args below meth c H locs cells slots Z lc ad hx hb _ _ os ol hl k => lv_lor hx hb hd ?_) (fun os _ => am_okL1 (am_okwJ _) (am_okt (am_okt os))) k
  rw [← Int64.ofInt_toInt (Int64.ofInt a ||| Int64.ofInt b)]; exact k
theorem am_iand {a b : Int} (hd : decode M.2.1 pc = .ok (.iand, 1)) (hp : pc + 1 = pc') (k : am_WP M bc bs pc' ls (am_I (Int32.ofInt a &&& Int32.ofInt b).toInt :: st) ρ h Q) : am_WP M bc bs pc ls (am_I b :: am_I a :: st) ρ h Q := by
  subst hp
  refine am_stk (fun p l e R s m args below meth c H locs cells slots Z lc ad hx hb _ _ os ol hl k => lv_iand hx hb hd ?_) (fun os _ => am_okI1 (am_okw _) (am_okt (am_okt os))) k
  rw [← Int32.ofInt_toInt (Int32.ofInt a &&& Int32.ofInt b)]; exact k
theorem am_iand1 {a : Int} (hd : decode M.2.1 pc = .ok (.iand, 1)) (hp : pc + 1 = pc') (h0 : 0 ≤ a) (h1 : a < 64) (k : am_WP M bc bs pc' ls (am_I (a % 2) :: st) ρ h Q) : am_WP M bc bs pc ls (am_I 1 :: am_I a :: st) ρ h Q := by
  refine am_iand hd hp ?_
  obtain ⟨n, rfl⟩ := Int.eq_ofNat_of_zero_le h0
  have e := am_and1 ⟨n, by omega⟩
  rw [show (Int32.ofInt (n : Int) &&& Int32.ofInt 1).toInt = (n : Int) % 2 from ?_]
  · exact k
  · show (Int32.ofInt ((n : Nat) : Int) &&& Int32.ofInt 1).toInt = _
    rw [e]
    show (Int32.ofInt ((n % 2 : Nat) : Int)).toInt = _
    rw [am_toInt ⟨by omega, by omega⟩]; omega
theorem am_ior {a b : Int} (hd : decode M.2.1 pc = .ok (.ior, 1)) (hp : pc + 1 = pc') (h0 : 0 ≤ a ∧ a < 64) (h1 : 0 ≤ b ∧ b < 64) (k : am_WP M bc bs pc' ls (am_I ((a.toNat ||| b.toNat : Nat) : Int) :: st) ρ h Q) : am_WP M bc bs pc ls (am_I b :: am_I a :: st) ρ h Q := by
  subst hp
  have hlt := am_orb ⟨a.toNat, by omega⟩ ⟨b.toNat, by omega⟩
  have e9 := am_orE ⟨a.toNat, by omega⟩ ⟨b.toNat, by omega⟩
  dsimp only at hlt e9
  rw [Int.toNat_of_nonneg h0.1, Int.toNat_of_nonneg h1.1] at e9
  refine am_stk (fun p l e R s m args below meth c H locs cells slots Z lc ad hx hb _ _ os ol hl k => lv_ior hx hb hd ?_) (fun os _ => am_okI1 ⟨by omega, by omega⟩ (am_okt (am_okt os))) k
  rw [e9]; exact k
theorem am_ishr1 {a : Int} (hd : decode M.2.1 pc = .ok (.ishr, 1)) (hp : pc + 1 = pc') (h0 : 0 ≤ a) (h1 : a < 64) (k : am_WP M bc bs pc' ls (am_I (a / 2) :: st) ρ h Q) : am_WP M bc bs pc ls (am_I 1 :: am_I a :: st) ρ h Q := by
  subst hp
  obtain ⟨n, rfl⟩ := Int.eq_ofNat_of_zero_le h0
  have e9 := am_shr1 ⟨n, by omega⟩
  dsimp only at e9
  refine am_stk (fun p l e R s m args below meth c H locs cells slots Z lc ad hx hb _ _ os ol hl k => lv_ishr hx hb hd ?_) (fun os _ => am_okI1 ⟨by omega, by omega⟩ (am_okt (am_okt os))) k
  rw [e9]; exact k
theorem am_ishl1 {b : Int} (hd : decode M.2.1 pc = .ok (.ishl, 1)) (hp : pc + 1 = pc') (h0 : 0 ≤ b) (h1 : b < 31) (k : am_WP M bc bs pc' ls (am_I ((2 ^ b.toNat : Nat) : Int) :: st) ρ h Q) : am_WP M bc bs pc ls (am_I b :: am_I 1 :: st) ρ h Q := by
  subst hp
  obtain ⟨n, rfl⟩ := Int.eq_ofNat_of_zero_le h0
  have e9 := am_shlE ⟨n, by omega⟩
  dsimp only at e9
  have hlt : 2 ^ n < 2 ^ 31 := Nat.pow_lt_pow_right (by decide) (by omega)
  refine am_stk (fun p l e R s m args below meth c H locs cells slots Z lc ad hx hb _ _ os ol hl k => lv_ishl hx hb hd ?_) (fun os _ => am_okI1 ⟨by rw [Int.toNat_natCast]; exact Int.le_trans (by decide) (Int.natCast_nonneg _), by rw [Int.toNat_natCast]; exact Int.ofNat_lt.mpr hlt⟩ (am_okt (am_okt os))) k
  rw [e9]; exact k
theorem am_lshl {a b : Int} (hd : decode M.2.1 pc = .ok (.lshl, 1)) (hp : pc + 1 = pc') (k : am_WP M bc bs pc' ls (am_L (Int64.ofInt a <<< ((Int32.ofInt b).toInt64 &&& 63)).toInt :: st) ρ h Q) : am_WP M bc bs pc ls (am_I b :: am_L a :: st) ρ h Q := by
  subst hp
  exact am_stk (fun p l e R s m args below meth c H locs cells slots Z lc ad hx hb _ _ os ol hl k => lv_lshl hx hb hd (Int64.ofInt_toInt _).symm k) (fun os _ => am_okL1 (am_okwJ _) (am_okt (am_okt os))) k
theorem am_i2l {a : Int} (hd : decode M.2.1 pc = .ok (.i2l, 1)) (hp : pc + 1 = pc') (k : am_WP M bc bs pc' ls (am_L a :: st) ρ h Q) : am_WP M bc bs pc ls (am_I a :: st) ρ h Q := by
  subst hp
  refine am_stk (fun p l e R s m args below meth c H locs cells slots Z lc ad hx hb _ _ os ol hl k => lv_i2l hx hb hd ?_ k) (fun os _ => am_okL1 ⟨by have := (am_okh os).1; omega, by have := (am_okh os).2; omega⟩ (am_okt os)) k
  have ha : am_okI a := am_okh os
  exact Int32.toInt64_ofInt (by have := ha.1; rw [show Int32.minValue.toInt = -2147483648 from rfl]; omega) (by have := ha.2; rw [show Int32.maxValue.toInt = 2147483647 from rfl]; omega)
def am_b8 (a : Int) : Int := (Int32.ofInt a).toInt8.toInt32.toInt
def am_s16 (a : Int) : Int := (Int32.ofInt a).toInt16.toInt32.toInt
theorem am_i2b {a : Int} (hd : decode M.2.1 pc = .ok (.i2b, 1)) (hp : pc + 1 = pc') (k : am_WP M bc bs pc' ls (am_I (am_b8 a) :: st) ρ h Q) : am_WP M bc bs pc ls (am_I a :: st) ρ h Q := by
  subst hp
  exact am_stk (fun p l e R s m args below meth c H locs cells slots Z lc ad hx hb _ _ os ol hl k => lv_i2b hx hb hd (Int32.ofInt_toInt _).symm k) (fun os _ => am_okI1 (am_okw _) (am_okt os)) k
theorem am_i2s {a : Int} (hd : decode M.2.1 pc = .ok (.i2s, 1)) (hp : pc + 1 = pc') (k : am_WP M bc bs pc' ls (am_I (am_s16 a) :: st) ρ h Q) : am_WP M bc bs pc ls (am_I a :: st) ρ h Q := by
  subst hp
  exact am_stk (fun p l e R s m args below meth c H locs cells slots Z lc ad hx hb _ _ os ol hl k => lv_i2s hx hb hd (Int32.ofInt_toInt _).symm k) (fun os _ => am_okI1 (am_okw _) (am_okt os)) k
theorem am_dupI {a : Int} (hd : decode M.2.1 pc = .ok (.dup, 1)) (hp : pc + 1 = pc') (k : am_WP M bc bs pc' ls (am_I a :: am_I a :: st) ρ h Q) : am_WP M bc bs pc ls (am_I a :: st) ρ h Q := by
  subst hp
  exact am_stk (fun p l e R s m args below meth c H locs cells slots Z lc ad hx hb _ _ os ol hl k => lv_dup hx hb hd rfl k) (fun os _ => am_ok1 (am_okh os) os) k
theorem am_dupR {a : Int} (hd : decode M.2.1 pc = .ok (.dup, 1)) (hp : pc + 1 = pc') (k : am_WP M bc bs pc' ls (am_R a :: am_R a :: st) ρ h Q) : am_WP M bc bs pc ls (am_R a :: st) ρ h Q := by
  subst hp
  exact am_stk (fun p l e R s m args below meth c H locs cells slots Z lc ad hx hb _ _ os ol hl k => lv_dup hx hb hd rfl k) (fun os _ => am_ok1 (am_okh os) os) k
theorem am_dup2 {a b : Int} (hd : decode M.2.1 pc = .ok (.dup2, 1)) (hp : pc + 1 = pc') (k : am_WP M bc bs pc' ls (am_I b :: am_R a :: am_I b :: am_R a :: st) ρ h Q) : am_WP M bc bs pc ls (am_I b :: am_R a :: st) ρ h Q := by
  subst hp
  exact am_stk (fun p l e R s m args below meth c H locs cells slots Z lc ad hx hb _ _ os ol hl k => lv_dup2_11 hx hb hd rfl rfl k) (fun os _ => am_ok1 (am_okh os) (am_ok1 (am_okh (am_okt os)) os)) k
theorem am_goto {off : Int} (hd : decode M.2.1 pc = .ok (.goto off, 3)) (ht : (pc : Int) + off = (pc' : Int)) (k : am_WP M bc bs pc' ls st ρ h Q) : am_WP M bc bs pc ls st ρ h Q :=
  am_stk (fun p l e R s m args below meth c H locs cells slots Z lc ad hx hb _ _ os ol hl k => lv_goto hx hb hd ht k) (fun os _ => os) k
end AMR
end
section
section AMR
variable {M : am_M} {bc bs pc pc' tgt : Nat} {ls ls' : List (Option am_V)} {st st' : List am_V} {ρ h : am_H} {Q : am_Q}
/-- a branch -/
theorem am_br {t : Prop} (hstep : ∀ (p : Program) (l : Launch) (e : Env) (R : Room) (s : State) (m : MethodId) (args : Array Value) (below : List Frame) (meth : Method) (c : Code) (H : Heap) (locs : List Loc) (cells slots : Nat) (Z : State → Prop) (lc : Array Slot) (ad : Int → Nat),
      p.tables.exec = Jvm.exec → c.code = M.2.1 → (∀ v ∈ st, am_okV (ρ 0 0) v) →
      (t → W p l e R s m args below meth c H locs cells slots Z (F0 m tgt lc (st'.map (am_c ad)))) → (¬ t → W p l e R s m args below meth c H locs cells slots Z (F0 m pc' lc (st'.map (am_c ad)))) → W p l e R s m args below meth c H locs cells slots Z (F0 m pc lc (st.map (am_c ad))))
    (hok : (∀ v ∈ st, am_okV (ρ 0 0) v) → ∀ v ∈ st', am_okV (ρ 0 0) v) (k1 : t → am_WP M bc bs tgt ls st' ρ h Q) (k2 : ¬ t → am_WP M bc bs pc' ls st' ρ h Q) : am_WP M bc bs pc ls st ρ h Q := by
  intro p l e R s m args below meth c Z D cI cS A n0 ad0 C ad H locs cells slots lc rl os ol hl hc hs
  exact hstep p l e R s m args below meth c H locs cells slots Z lc ad C.1.1.1 C.1.1.2.1 os (fun q => k1 q p l e R s m args below meth c Z D cI cS A n0 ad0 C ad H locs cells slots lc rl (hok os) ol hl hc hs) (fun q => k2 q p l e R s m args below meth c Z D cI cS A n0 ad0 C ad H locs cells slots lc rl (hok os) ol hl hc hs)
theorem am_eq0 {a : Int} (ha : am_okI a) : Int32.ofInt a = 0 ↔ a = 0 := by rw [← am_0, am_inj ha am_ok0]
theorem am_lt0 {a : Int} (ha : am_okI a) : Int32.ofInt a < 0 ↔ a < 0 := by rw [← am_0, am_lt ha am_ok0]
theorem am_gt0 {a : Int} (ha : am_okI a) : 0 < Int32.ofInt a ↔ 0 < a := by rw [← am_0, am_lt am_ok0 ha]
theorem am_le0 {a : Int} (ha : am_okI a) : Int32.ofInt a ≤ 0 ↔ a ≤ 0 := by rw [← am_0, am_le ha am_ok0]
theorem am_ge0 {a : Int} (ha : am_okI a) : 0 ≤ Int32.ofInt a ↔ 0 ≤ a := by rw [← am_0, am_le am_ok0 ha]
theorem am_if_eq {a off : Int} (hd : decode M.2.1 pc = .ok (.ifCond .eq off, 3)) (ht : (pc : Int) + off = (tgt : Int)) (hp : pc + 3 = pc') (k1 : a = 0 → am_WP M bc bs tgt ls st ρ h Q) (k2 : ¬ a = 0 → am_WP M bc bs pc' ls st ρ h Q) : am_WP M bc bs pc ls (am_I a :: st) ρ h Q := by
  subst hp
  exact am_br (fun p l e R s m args below meth c H locs cells slots Z lc ad hx hb os kt kf => lv_if_eq hx hb hd ht (fun q => kt ((am_eq0 (am_okh os)).mp q)) (fun q => kf (fun z => q ((am_eq0 (am_okh os)).mpr z)))) am_okt k1 k2
theorem am_if_lt {a off : Int} (hd : decode M.2.1 pc = .ok (.ifCond .lt off, 3)) (ht : (pc : Int) + off = (tgt : Int)) (hp : pc + 3 = pc') (k1 : a < 0 → am_WP M bc bs tgt ls st ρ h Q) (k2 : ¬ a < 0 → am_WP M bc bs pc' ls st ρ h Q) : am_WP M bc bs pc ls (am_I a :: st) ρ h Q := by
  subst hp
  exact am_br (fun p l e R s m args below meth c H locs cells slots Z lc ad hx hb os kt kf => lv_if_lt hx hb hd ht (fun q => kt ((am_lt0 (am_okh os)).mp q)) (fun q => kf (fun z => q ((am_lt0 (am_okh os)).mpr z)))) am_okt k1 k2
theorem am_if_ge {a off : Int} (hd : decode M.2.1 pc = .ok (.ifCond .ge off, 3)) (ht : (pc : Int) + off = (tgt : Int)) (hp : pc + 3 = pc') (k1 : 0 ≤ a → am_WP M bc bs tgt ls st ρ h Q) (k2 : ¬ 0 ≤ a → am_WP M bc bs pc' ls st ρ h Q) : am_WP M bc bs pc ls (am_I a :: st) ρ h Q := by
  subst hp
  exact am_br (fun p l e R s m args below meth c H locs cells slots Z lc ad hx hb os kt kf => lv_if_ge hx hb hd ht (fun q => kt ((am_ge0 (am_okh os)).mp q)) (fun q => kf (fun z => q ((am_ge0 (am_okh os)).mpr z)))) am_okt k1 k2
theorem am_if_gt {a off : Int} (hd : decode M.2.1 pc = .ok (.ifCond .gt off, 3)) (ht : (pc : Int) + off = (tgt : Int)) (hp : pc + 3 = pc') (k1 : 0 < a → am_WP M bc bs tgt ls st ρ h Q) (k2 : ¬ 0 < a → am_WP M bc bs pc' ls st ρ h Q) : am_WP M bc bs pc ls (am_I a :: st) ρ h Q := by
  subst hp
  exact am_br (fun p l e R s m args below meth c H locs cells slots Z lc ad hx hb os kt kf => lv_if_gt hx hb hd ht (fun q => kt ((am_gt0 (am_okh os)).mp q)) (fun q => kf (fun z => q ((am_gt0 (am_okh os)).mpr z)))) am_okt k1 k2
theorem am_if_le {a off : Int} (hd : decode M.2.1 pc = .ok (.ifCond .le off, 3)) (ht : (pc : Int) + off = (tgt : Int)) (hp : pc + 3 = pc') (k1 : a ≤ 0 → am_WP M bc bs tgt ls st ρ h Q) (k2 : ¬ a ≤ 0 → am_WP M bc bs pc' ls st ρ h Q) : am_WP M bc bs pc ls (am_I a :: st) ρ h Q := by
  subst hp
  exact am_br (fun p l e R s m args below meth c H locs cells slots Z lc ad hx hb os kt kf => lv_if_le hx hb hd ht (fun q => kt ((am_le0 (am_okh os)).mp q)) (fun q => kf (fun z => q ((am_le0 (am_okh os)).mpr z)))) am_okt k1 k2
theorem am_if_ne {a off : Int} (hd : decode M.2.1 pc = .ok (.ifCond .ne off, 3)) (ht : (pc : Int) + off = (tgt : Int)) (hp : pc + 3 = pc') (k1 : a ≠ 0 → am_WP M bc bs tgt ls st ρ h Q) (k2 : a = 0 → am_WP M bc bs pc' ls st ρ h Q) : am_WP M bc bs pc ls (am_I a :: st) ρ h Q := by
  subst hp
  exact am_br (t := a ≠ 0) (fun p l e R s m args below meth c H locs cells slots Z lc ad hx hb os kt kf => lv_if_ne hx hb hd ht (fun q => kt (fun z => q ((am_eq0 (am_okh os)).mpr z))) (fun q => kf (fun z => z ((am_eq0 (am_okh os)).mp q)))) am_okt k1 (fun q => k2 (Decidable.not_not.mp q))
theorem am_icmp_eq {a b off : Int} (hd : decode M.2.1 pc = .ok (.if_icmp .eq off, 3)) (ht : (pc : Int) + off = (tgt : Int)) (hp : pc + 3 = pc') (k1 : a = b → am_WP M bc bs tgt ls st ρ h Q) (k2 : ¬ a = b → am_WP M bc bs pc' ls st ρ h Q) : am_WP M bc bs pc ls (am_I b :: am_I a :: st) ρ h Q := by
  subst hp
  exact am_br (fun p l e R s m args below meth c H locs cells slots Z lc ad hx hb os kt kf => lv_icmp_eq hx hb hd ht (fun q => kt ((am_inj (am_okh (am_okt os)) (am_okh os)).mp q)) (fun q => kf (fun z => q ((am_inj (am_okh (am_okt os)) (am_okh os)).mpr z)))) (fun os => am_okt (am_okt os)) k1 k2
theorem am_icmp_lt {a b off : Int} (hd : decode M.2.1 pc = .ok (.if_icmp .lt off, 3)) (ht : (pc : Int) + off = (tgt : Int)) (hp : pc + 3 = pc') (k1 : a < b → am_WP M bc bs tgt ls st ρ h Q) (k2 : ¬ a < b → am_WP M bc bs pc' ls st ρ h Q) : am_WP M bc bs pc ls (am_I b :: am_I a :: st) ρ h Q := by
  subst hp
  exact am_br (fun p l e R s m args below meth c H locs cells slots Z lc ad hx hb os kt kf => lv_icmp_lt hx hb hd ht (fun q => kt ((am_lt (am_okh (am_okt os)) (am_okh os)).mp q)) (fun q => kf (fun z => q ((am_lt (am_okh (am_okt os)) (am_okh os)).mpr z)))) (fun os => am_okt (am_okt os)) k1 k2
theorem am_icmp_ge {a b off : Int} (hd : decode M.2.1 pc = .ok (.if_icmp .ge off, 3)) (ht : (pc : Int) + off = (tgt : Int)) (hp : pc + 3 = pc') (k1 : b ≤ a → am_WP M bc bs tgt ls st ρ h Q) (k2 : ¬ b ≤ a → am_WP M bc bs pc' ls st ρ h Q) : am_WP M bc bs pc ls (am_I b :: am_I a :: st) ρ h Q := by
  subst hp
  exact am_br (fun p l e R s m args below meth c H locs cells slots Z lc ad hx hb os kt kf => lv_icmp_ge hx hb hd ht (fun q => kt ((am_le (am_okh os) (am_okh (am_okt os))).mp q)) (fun q => kf (fun z => q ((am_le (am_okh os) (am_okh (am_okt os))).mpr z)))) (fun os => am_okt (am_okt os)) k1 k2
theorem am_icmp_gt {a b off : Int} (hd : decode M.2.1 pc = .ok (.if_icmp .gt off, 3)) (ht : (pc : Int) + off = (tgt : Int)) (hp : pc + 3 = pc') (k1 : b < a → am_WP M bc bs tgt ls st ρ h Q) (k2 : ¬ b < a → am_WP M bc bs pc' ls st ρ h Q) : am_WP M bc bs pc ls (am_I b :: am_I a :: st) ρ h Q := by
  subst hp
  exact am_br (fun p l e R s m args below meth c H locs cells slots Z lc ad hx hb os kt kf => lv_icmp_gt hx hb hd ht (fun q => kt ((am_lt (am_okh os) (am_okh (am_okt os))).mp q)) (fun q => kf (fun z => q ((am_lt (am_okh os) (am_okh (am_okt os))).mpr z)))) (fun os => am_okt (am_okt os)) k1 k2
theorem am_icmp_le {a b off : Int} (hd : decode M.2.1 pc = .ok (.if_icmp .le off, 3)) (ht : (pc : Int) + off = (tgt : Int)) (hp : pc + 3 = pc') (k1 : a ≤ b → am_WP M bc bs tgt ls st ρ h Q) (k2 : ¬ a ≤ b → am_WP M bc bs pc' ls st ρ h Q) : am_WP M bc bs pc ls (am_I b :: am_I a :: st) ρ h Q := by
  subst hp
  exact am_br (fun p l e R s m args below meth c H locs cells slots Z lc ad hx hb os kt kf => lv_icmp_le hx hb hd ht (fun q => kt ((am_le (am_okh (am_okt os)) (am_okh os)).mp q)) (fun q => kf (fun z => q ((am_le (am_okh (am_okt os)) (am_okh os)).mpr z)))) (fun os => am_okt (am_okt os)) k1 k2
theorem am_icmp_ne {a b off : Int} (hd : decode M.2.1 pc = .ok (.if_icmp .ne off, 3)) (ht : (pc : Int) + off = (tgt : Int)) (hp : pc + 3 = pc') (k1 : a ≠ b → am_WP M bc bs tgt ls st ρ h Q) (k2 : a = b → am_WP M bc bs pc' ls st ρ h Q) : am_WP M bc bs pc ls (am_I b :: am_I a :: st) ρ h Q := by
  subst hp
  exact am_br (t := a ≠ b) (fun p l e R s m args below meth c H locs cells slots Z lc ad hx hb os kt kf => lv_icmp_ne hx hb hd ht (fun q => kt (fun z => q ((am_inj (am_okh (am_okt os)) (am_okh os)).mpr z))) (fun q => kf (fun z => z ((am_inj (am_okh (am_okt os)) (am_okh os)).mp q)))) (fun os => am_okt (am_okt os)) k1 (fun q => k2 (Decidable.not_not.mp q))
theorem am_leJ {x y : Int} (hx : am_okJ x) (hy : am_okJ y) : Int64.ofInt x ≤ Int64.ofInt y ↔ x ≤ y := by
  rw [Int64.le_iff_toInt_le, am_toIntJ hx, am_toIntJ hy]
theorem am_lcmp_eq {a b off : Int} {pc1 : Nat} (hd0 : decode M.2.1 pc = .ok (.lcmp, 1)) (hp1 : pc + 1 = pc1) (hd : decode M.2.1 pc1 = .ok (.ifCond .eq off, 3)) (ht : (pc1 : Int) + off = (tgt : Int)) (hp : pc1 + 3 = pc') (k1 : a = b → am_WP M bc bs tgt ls st ρ h Q) (k2 : ¬ a = b → am_WP M bc bs pc' ls st ρ h Q) : am_WP M bc bs pc ls (am_L b :: am_L a :: st) ρ h Q := by
  subst hp
  subst hp1
  exact am_br (fun p l e R s m args below meth c H locs cells slots Z lc ad hx hb os kt kf => W.lcmp hx hb hd0 (lv_if_eq hx hb hd ht (fun q => kt ((am_injJ (am_okh (am_okt os)) (am_okh os)).mp ((lg_cmp_eq _ _).mp q))) (fun q => kf (fun z => q ((lg_cmp_eq _ _).mpr ((am_injJ (am_okh (am_okt os)) (am_okh os)).mpr z)))))) (fun os => am_okt (am_okt os)) k1 k2
theorem am_lcmp_lt {a b off : Int} {pc1 : Nat} (hd0 : decode M.2.1 pc = .ok (.lcmp, 1)) (hp1 : pc + 1 = pc1) (hd : decode M.2.1 pc1 = .ok (.ifCond .lt off, 3)) (ht : (pc1 : Int) + off = (tgt : Int)) (hp : pc1 + 3 = pc') (k1 : a < b → am_WP M bc bs tgt ls st ρ h Q) (k2 : ¬ a < b → am_WP M bc bs pc' ls st ρ h Q) : am_WP M bc bs pc ls (am_L b :: am_L a :: st) ρ h Q := by
  subst hp
  subst hp1
  exact am_br (fun p l e R s m args below meth c H locs cells slots Z lc ad hx hb os kt kf => W.lcmp hx hb hd0 (lv_if_lt hx hb hd ht (fun q => kt ((am_ltJ (am_okh (am_okt os)) (am_okh os)).mp ((lg_cmp_lt _ _).mp q))) (fun q => kf (fun z => q ((lg_cmp_lt _ _).mpr ((am_ltJ (am_okh (am_okt os)) (am_okh os)).mpr z)))))) (fun os => am_okt (am_okt os)) k1 k2
theorem am_lcmp_ge {a b off : Int} {pc1 : Nat} (hd0 : decode M.2.1 pc = .ok (.lcmp, 1)) (hp1 : pc + 1 = pc1) (hd : decode M.2.1 pc1 = .ok (.ifCond .ge off, 3)) (ht : (pc1 : Int) + off = (tgt : Int)) (hp : pc1 + 3 = pc') (k1 : b ≤ a → am_WP M bc bs tgt ls st ρ h Q) (k2 : ¬ b ≤ a → am_WP M bc bs pc' ls st ρ h Q) : am_WP M bc bs pc ls (am_L b :: am_L a :: st) ρ h Q := by
  subst hp
  subst hp1
  exact am_br (fun p l e R s m args below meth c H locs cells slots Z lc ad hx hb os kt kf => W.lcmp hx hb hd0 (lv_if_ge hx hb hd ht (fun q => kt ((am_leJ (am_okh os) (am_okh (am_okt os))).mp ((lg_cmp_ge _ _).mp q))) (fun q => kf (fun z => q ((lg_cmp_ge _ _).mpr ((am_leJ (am_okh os) (am_okh (am_okt os))).mpr z)))))) (fun os => am_okt (am_okt os)) k1 k2
theorem am_lcmp_gt {a b off : Int} {pc1 : Nat} (hd0 : decode M.2.1 pc = .ok (.lcmp, 1)) (hp1 : pc + 1 = pc1) (hd : decode M.2.1 pc1 = .ok (.ifCond .gt off, 3)) (ht : (pc1 : Int) + off = (tgt : Int)) (hp : pc1 + 3 = pc') (k1 : b < a → am_WP M bc bs tgt ls st ρ h Q) (k2 : ¬ b < a → am_WP M bc bs pc' ls st ρ h Q) : am_WP M bc bs pc ls (am_L b :: am_L a :: st) ρ h Q := by
  subst hp
  subst hp1
  exact am_br (fun p l e R s m args below meth c H locs cells slots Z lc ad hx hb os kt kf => W.lcmp hx hb hd0 (lv_if_gt hx hb hd ht (fun q => kt ((am_ltJ (am_okh os) (am_okh (am_okt os))).mp ((lg_cmp_gt _ _).mp q))) (fun q => kf (fun z => q ((lg_cmp_gt _ _).mpr ((am_ltJ (am_okh os) (am_okh (am_okt os))).mpr z)))))) (fun os => am_okt (am_okt os)) k1 k2
theorem am_lcmp_le {a b off : Int} {pc1 : Nat} (hd0 : decode M.2.1 pc = .ok (.lcmp, 1)) (hp1 : pc + 1 = pc1) (hd : decode M.2.1 pc1 = .ok (.ifCond .le off, 3)) (ht : (pc1 : Int) + off = (tgt : Int)) (hp : pc1 + 3 = pc') (k1 : a ≤ b → am_WP M bc bs tgt ls st ρ h Q) (k2 : ¬ a ≤ b → am_WP M bc bs pc' ls st ρ h Q) : am_WP M bc bs pc ls (am_L b :: am_L a :: st) ρ h Q := by
  subst hp
  subst hp1
  exact am_br (fun p l e R s m args below meth c H locs cells slots Z lc ad hx hb os kt kf => W.lcmp hx hb hd0 (lv_if_le hx hb hd ht (fun q => kt ((am_leJ (am_okh (am_okt os)) (am_okh os)).mp ((lg_cmp_le _ _).mp q))) (fun q => kf (fun z => q ((lg_cmp_le _ _).mpr ((am_leJ (am_okh (am_okt os)) (am_okh os)).mpr z)))))) (fun os => am_okt (am_okt os)) k1 k2
theorem am_lcmp_ne {a b off : Int} {pc1 : Nat} (hd0 : decode M.2.1 pc = .ok (.lcmp, 1)) (hp1 : pc + 1 = pc1) (hd : decode M.2.1 pc1 = .ok (.ifCond .ne off, 3)) (ht : (pc1 : Int) + off = (tgt : Int)) (hp : pc1 + 3 = pc') (k1 : a ≠ b → am_WP M bc bs tgt ls st ρ h Q) (k2 : a = b → am_WP M bc bs pc' ls st ρ h Q) : am_WP M bc bs pc ls (am_L b :: am_L a :: st) ρ h Q := by
  subst hp
  subst hp1
  exact am_br (t := a ≠ b) (fun p l e R s m args below meth c H locs cells slots Z lc ad hx hb os kt kf => W.lcmp hx hb hd0 (lv_if_ne hx hb hd ht (fun q => kt (fun z => q ((lg_cmp_eq _ _).mpr ((am_injJ (am_okh (am_okt os)) (am_okh os)).mpr z)))) (fun q => kf (fun z => z ((am_injJ (am_okh (am_okt os)) (am_okh os)).mp ((lg_cmp_eq _ _).mp q)))))) (fun os => am_okt (am_okt os)) k1 (fun q => k2 (Decidable.not_not.mp q))
theorem am_tabOut {a dflt lo hi : Int} {offs : Array Int} {len : Nat} (hd : decode M.2.1 pc = .ok (.tableswitch dflt lo hi offs, len)) (ht : (pc : Int) + dflt = (pc' : Int)) (hx : a < lo ∨ hi < a) (k : am_WP M bc bs pc' ls st ρ h Q) : am_WP M bc bs pc ls (am_I a :: st) ρ h Q :=
  am_stk (fun p l e R s m args below meth c H locs cells slots Z lc ad hx9 hb _ _ os ol hl k => lv_tableOut hx9 hb hd (by rw [am_toInt (am_okh os)]; exact hx) ht k) (fun os _ => am_okt os) k
theorem am_tabIn {a dflt lo hi off : Int} {offs : Array Int} {len : Nat} (hd : decode M.2.1 pc = .ok (.tableswitch dflt lo hi offs, len)) (h1 : ¬ a < lo) (h2 : ¬ hi < a) (ho : offs[(a - lo).toNat]? = some off) (ht : (pc : Int) + off = (pc' : Int)) (k : am_WP M bc bs pc' ls st ρ h Q) : am_WP M bc bs pc ls (am_I a :: st) ρ h Q :=
  am_stk (fun p l e R s m args below meth c H locs cells slots Z lc ad hx9 hb _ _ os ol hl k => lv_tableIn hx9 hb hd (by rw [am_toInt (am_okh os)]; exact h1) (by rw [am_toInt (am_okh os)]; exact h2) (by rw [am_toInt (am_okh os)]; exact ho) ht k) (fun os _ => am_okt os) k
theorem am_look {a dflt off : Int} {ps : Array (Int × Int)} {len : Nat} (hd : decode M.2.1 pc = .ok (.lookupswitch dflt ps, len)) (hq : (ps.toList.zip (ps.toList.drop 1)).all (fun (a, next) => a.1 < next.1) = true) (ho : Op.lookupswitch.offset ps.toList dflt a = off) (ht : (pc : Int) + off = (pc' : Int)) (k : am_WP M bc bs pc' ls st ρ h Q) : am_WP M bc bs pc ls (am_I a :: st) ρ h Q :=
  am_stk (fun p l e R s m args below meth c H locs cells slots Z lc ad hx9 hb _ _ os ol hl k => lv_lookup hx9 hb hd hq (by rw [am_toInt (am_okh os)]; exact ho) ht k) (fun os _ => am_okt os) k
theorem am_olset {n : Int} {i : Nat} {v : am_V} (hv : am_okV n v) (ol : ∀ v, some v ∈ ls → am_okV n v) : ∀ w, some w ∈ ls.set i (some v) → am_okV n w := fun w hw => by
  rcases List.mem_or_eq_of_mem_set hw with h | h
  · exact ol w h
  · cases h; exact hv
theorem am_olset2 {n : Int} {i : Nat} {v : am_V} (hv : am_okV n v) (ol : ∀ v, some v ∈ ls → am_okV n v) : ∀ w, some w ∈ (ls.set i (some v)).set (i + 1) none → am_okV n w := fun w hw => by
  rcases List.mem_or_eq_of_mem_set hw with h | h
  · exact am_olset hv ol w h
  · cases h
theorem am_istore_n {q : Fin 4} {i : Nat} {x : Int} (hd : decode M.2.1 pc = .ok (.istore_n q, 1)) (hp : pc + 1 = pc') (hi : (q : Nat) = i) (hn : i < M.2.2.1) (hnl : am_nl ls i = true) (hls : ls.set i (some (am_I x)) = ls') (k : am_WP M bc bs pc' ls' st ρ h Q) : am_WP M bc bs pc ls (am_I x :: st) ρ h Q := by
  subst hp
  subst hls
  intro p l e R s m args below meth c Z D cI cS A n0 ad0 C ad H locs cells slots lc rl os ol hl hc hs
  exact lv_istore_n C.1.1.1 C.1.1.2.1 hd hi hl hn rfl (fun lc' hl' => k p l e R s m args below meth c Z D cI cS A n0 ad0 C ad H locs cells slots lc' rl (am_okt os) (am_olset (am_okh os) ol) (am_lv_store1 (v := am_I x) hl' hnl) hc hs)
theorem am_istore {i : Nat} {x : Int} (hd : decode M.2.1 pc = .ok (.istore i, 2)) (hp : pc + 2 = pc') (hn : i < M.2.2.1) (hnl : am_nl ls i = true) (hls : ls.set i (some (am_I x)) = ls') (k : am_WP M bc bs pc' ls' st ρ h Q) : am_WP M bc bs pc ls (am_I x :: st) ρ h Q := by
  subst hp
  subst hls
  intro p l e R s m args below meth c Z D cI cS A n0 ad0 C ad H locs cells slots lc rl os ol hl hc hs
  exact lv_istore C.1.1.1 C.1.1.2.1 hd hl hn rfl (fun lc' hl' => k p l e R s m args below meth c Z D cI cS A n0 ad0 C ad H locs cells slots lc' rl (am_okt os) (am_olset (am_okh os) ol) (am_lv_store1 (v := am_I x) hl' hnl) hc hs)
theorem am_lstore_n {q : Fin 4} {i : Nat} {x : Int} (hd : decode M.2.1 pc = .ok (.lstore_n q, 1)) (hp : pc + 1 = pc') (hi : (q : Nat) = i) (hn : i + 1 < M.2.2.1) (hnl : am_nl ls i = true) (hls : (ls.set i (some (am_L x))).set (i + 1) none = ls') (k : am_WP M bc bs pc' ls' st ρ h Q) : am_WP M bc bs pc ls (am_L x :: st) ρ h Q := by
  subst hp
  subst hls
  intro p l e R s m args below meth c Z D cI cS A n0 ad0 C ad H locs cells slots lc rl os ol hl hc hs
  exact lv_lstore_n C.1.1.1 C.1.1.2.1 hd hi hl hn rfl (fun lc' hl' => k p l e R s m args below meth c Z D cI cS A n0 ad0 C ad H locs cells slots lc' rl (am_okt os) (am_olset2 (am_okh os) ol) (am_lv_store2 (v := am_L x) hl' hnl) hc hs)
theorem am_lstore {i : Nat} {x : Int} (hd : decode M.2.1 pc = .ok (.lstore i, 2)) (hp : pc + 2 = pc') (hn : i + 1 < M.2.2.1) (hnl : am_nl ls i = true) (hls : (ls.set i (some (am_L x))).set (i + 1) none = ls') (k : am_WP M bc bs pc' ls' st ρ h Q) : am_WP M bc bs pc ls (am_L x :: st) ρ h Q := by
  subst hp
  subst hls
  intro p l e R s m args below meth c Z D cI cS A n0 ad0 C ad H locs cells slots lc rl os ol hl hc hs
  exact lv_lstore C.1.1.1 C.1.1.2.1 hd hl hn rfl (fun lc' hl' => k p l e R s m args below meth c Z D cI cS A n0 ad0 C ad H locs cells slots lc' rl (am_okt os) (am_olset2 (am_okh os) ol) (am_lv_store2 (v := am_L x) hl' hnl) hc hs)
theorem am_astore_n {q : Fin 4} {i : Nat} {x : Int} (hd : decode M.2.1 pc = .ok (.astore_n q, 1)) (hp : pc + 1 = pc') (hi : (q : Nat) = i) (hn : i < M.2.2.1) (hnl : am_nl ls i = true) (hls : ls.set i (some (am_R x)) = ls') (k : am_WP M bc bs pc' ls' st ρ h Q) : am_WP M bc bs pc ls (am_R x :: st) ρ h Q := by
  subst hp
  subst hls
  intro p l e R s m args below meth c Z D cI cS A n0 ad0 C ad H locs cells slots lc rl os ol hl hc hs
  exact lv_astore_n C.1.1.1 C.1.1.2.1 hd hi hl hn rfl (fun lc' hl' => k p l e R s m args below meth c Z D cI cS A n0 ad0 C ad H locs cells slots lc' rl (am_okt os) (am_olset (am_okh os) ol) (am_lv_store1 (v := am_R x) hl' hnl) hc hs)
theorem am_astore {i : Nat} {x : Int} (hd : decode M.2.1 pc = .ok (.astore i, 2)) (hp : pc + 2 = pc') (hn : i < M.2.2.1) (hnl : am_nl ls i = true) (hls : ls.set i (some (am_R x)) = ls') (k : am_WP M bc bs pc' ls' st ρ h Q) : am_WP M bc bs pc ls (am_R x :: st) ρ h Q := by
  subst hp
  subst hls
  intro p l e R s m args below meth c Z D cI cS A n0 ad0 C ad H locs cells slots lc rl os ol hl hc hs
  exact lv_astore C.1.1.1 C.1.1.2.1 hd hl hn rfl (fun lc' hl' => k p l e R s m args below meth c Z D cI cS A n0 ad0 C ad H locs cells slots lc' rl (am_okt os) (am_olset (am_okh os) ol) (am_lv_store1 (v := am_R x) hl' hnl) hc hs)
theorem am_iinc {i : Nat} {x n : Int} (hd : decode M.2.1 pc = .ok (.iinc i n, 3)) (hp : pc + 3 = pc') (hx : ls[i]? = some (some (am_I x))) (hr : am_okI (x + n)) (hn : i < M.2.2.1) (hnl : am_nl ls i = true) (hls : ls.set i (some (am_I (x + n))) = ls') (k : am_WP M bc bs pc' ls' st ρ h Q) : am_WP M bc bs pc ls st ρ h Q := by
  subst hp
  subst hls
  intro p l e R s m args below meth c Z D cI cS A n0 ad0 C ad H locs cells slots lc rl os ol hl hc hs
  obtain ⟨kk, hkk⟩ := List.getElem?_of_mem ((am_lv_mem ad ls 0 (i, am_c ad (am_I x))).mpr ⟨i, am_I x, hx, by simp⟩)
  exact lv_iinc (v := Int32.ofInt (x + n)) C.1.1.1 C.1.1.2.1 hd hl hkk (Int32.ofInt_add x n).symm hn rfl (fun lc' hl' => k p l e R s m args below meth c Z D cI cS A n0 ad0 C ad H locs cells slots lc' rl os (am_olset (v := am_I (x + n)) hr ol) (am_lv_store1 (v := am_I (x + n)) hl' hnl) hc hs)
end AMR
end
section
/-! the classes -/
theorem inX_X0 : ∀ w ∈ u_ws RX0 TX0 14, am_T w := am_inT _ [105, 107, 109, 111, 113, 115, 117, 119, 121, 123, 125, 127, 129, 131] (by decide +kernel) (by decide +kernel)
theorem inX_X1 : ∀ w ∈ u_ws RX1 TX1 3, am_T w := am_inT _ [188, 190, 192] (by decide +kernel) (by decide +kernel)
theorem inX_X2 : ∀ w ∈ u_ws RX2 TX2 4, am_T w := am_inT _ [167, 169, 171, 173] (by decide +kernel) (by decide +kernel)
theorem inX_X3 : ∀ w ∈ u_ws RX3 TX3 5, am_T w := am_inT _ [64, 66, 68, 70, 72] (by decide +kernel) (by decide +kernel)
theorem inX_X4 : ∀ w ∈ u_ws RX4 TX4 3, am_T w := am_inT _ [33, 35, 37] (by decide +kernel) (by decide +kernel)
theorem inX_X5 : ∀ w ∈ u_ws RX5 TX5 5, am_T w := am_inT _ [145, 147, 149, 151, 153] (by decide +kernel) (by decide +kernel)
theorem inX_X7 : ∀ w ∈ u_ws RX7 TX7 10, am_T w := am_inT _ [205, 207, 209, 211, 213, 215, 217, 219, 221, 223] (by decide +kernel) (by decide +kernel)
theorem inX_X8 : ∀ w ∈ u_ws RX8 TX8 32, am_T w := am_inT _ [711, 713, 715, 717, 719, 721, 723, 725, 727, 729, 731, 733, 735, 737, 739, 741, 743, 745, 747, 749, 751, 753, 755, 757, 759, 761, 763, 765, 767, 769, 771, 773] (by decide +kernel) (by decide +kernel)
def am_ty (ci : Nat) : Nat → FieldType := match ci with
  | 0 => tyX0
  | 1 => tyX1
  | 2 => tyX2
  | 3 => tyX3
  | 4 => tyX4
  | 5 => tyX5
  | 6 => tyX7
  | _ => tyX8
theorem am_tyI0 : ∀ ci, ci < 8 → ∀ k, k < am_N ci → am_isI ci k = true → am_ty ci k = .int := by decide +kernel
theorem am_tyR_0 : ∀ k, k < 14 → am_isI 0 k = false → defaultValue (am_ty 0 k) = .null ∧ ∀ a, narrow (am_ty 0 k) (.ref a) = .ref a ∧ fits (am_ty 0 k) (.ref a) = true
  | 0, _, _ => ⟨rfl, fun _ => ⟨rfl, rfl⟩⟩
  | 1, _, _ => ⟨rfl, fun _ => ⟨rfl, rfl⟩⟩
  | 2, _, _ => ⟨rfl, fun _ => ⟨rfl, rfl⟩⟩
  | 3, _, _ => ⟨rfl, fun _ => ⟨rfl, rfl⟩⟩
  | 4, _, _ => ⟨rfl, fun _ => ⟨rfl, rfl⟩⟩
  | 5, _, _ => ⟨rfl, fun _ => ⟨rfl, rfl⟩⟩
  | 6, _, h => by simp [am_isI] at h
  | 7, _, h => by simp [am_isI] at h
  | 8, _, h => by simp [am_isI] at h
  | 9, _, h => by simp [am_isI] at h
  | 10, _, h => by simp [am_isI] at h
  | 11, _, h => by simp [am_isI] at h
  | 12, _, h => by simp [am_isI] at h
  | 13, _, h => by simp [am_isI] at h
  | k + 14, h, _ => by omega
theorem am_tyR_1 : ∀ k, k < 3 → am_isI 1 k = false → defaultValue (am_ty 1 k) = .null ∧ ∀ a, narrow (am_ty 1 k) (.ref a) = .ref a ∧ fits (am_ty 1 k) (.ref a) = true
  | 0, _, h => by simp [am_isI] at h
  | 1, _, h => by simp [am_isI] at h
  | 2, _, h => by simp [am_isI] at h
  | k + 3, h, _ => by omega
theorem am_tyR_2 : ∀ k, k < 4 → am_isI 2 k = false → defaultValue (am_ty 2 k) = .null ∧ ∀ a, narrow (am_ty 2 k) (.ref a) = .ref a ∧ fits (am_ty 2 k) (.ref a) = true
  | 0, _, _ => ⟨rfl, fun _ => ⟨rfl, rfl⟩⟩
  | 1, _, _ => ⟨rfl, fun _ => ⟨rfl, rfl⟩⟩
  | 2, _, _ => ⟨rfl, fun _ => ⟨rfl, rfl⟩⟩
  | 3, _, h => by simp [am_isI] at h
  | k + 4, h, _ => by omega
theorem am_tyR_3 : ∀ k, k < 5 → am_isI 3 k = false → defaultValue (am_ty 3 k) = .null ∧ ∀ a, narrow (am_ty 3 k) (.ref a) = .ref a ∧ fits (am_ty 3 k) (.ref a) = true
  | 0, _, h => by simp [am_isI] at h
  | 1, _, h => by simp [am_isI] at h
  | 2, _, _ => ⟨rfl, fun _ => ⟨rfl, rfl⟩⟩
  | 3, _, _ => ⟨rfl, fun _ => ⟨rfl, rfl⟩⟩
  | 4, _, _ => ⟨rfl, fun _ => ⟨rfl, rfl⟩⟩
  | k + 5, h, _ => by omega
theorem am_tyR_4 : ∀ k, k < 3 → am_isI 4 k = false → defaultValue (am_ty 4 k) = .null ∧ ∀ a, narrow (am_ty 4 k) (.ref a) = .ref a ∧ fits (am_ty 4 k) (.ref a) = true
  | 0, _, h => by simp [am_isI] at h
  | 1, _, h => by simp [am_isI] at h
  | 2, _, _ => ⟨rfl, fun _ => ⟨rfl, rfl⟩⟩
  | k + 3, h, _ => by omega
theorem am_tyR_5 : ∀ k, k < 5 → am_isI 5 k = false → defaultValue (am_ty 5 k) = .null ∧ ∀ a, narrow (am_ty 5 k) (.ref a) = .ref a ∧ fits (am_ty 5 k) (.ref a) = true
  | 0, _, _ => ⟨rfl, fun _ => ⟨rfl, rfl⟩⟩
  | 1, _, _ => ⟨rfl, fun _ => ⟨rfl, rfl⟩⟩
  | 2, _, _ => ⟨rfl, fun _ => ⟨rfl, rfl⟩⟩
  | 3, _, h => by simp [am_isI] at h
  | 4, _, h => by simp [am_isI] at h
  | k + 5, h, _ => by omega
theorem am_tyR_6 : ∀ k, k < 10 → am_isI 6 k = false → defaultValue (am_ty 6 k) = .null ∧ ∀ a, narrow (am_ty 6 k) (.ref a) = .ref a ∧ fits (am_ty 6 k) (.ref a) = true
  | 0, _, _ => ⟨rfl, fun _ => ⟨rfl, rfl⟩⟩
  | 1, _, _ => ⟨rfl, fun _ => ⟨rfl, rfl⟩⟩
  | 2, _, _ => ⟨rfl, fun _ => ⟨rfl, rfl⟩⟩
  | 3, _, _ => ⟨rfl, fun _ => ⟨rfl, rfl⟩⟩
  | 4, _, _ => ⟨rfl, fun _ => ⟨rfl, rfl⟩⟩
  | 5, _, _ => ⟨rfl, fun _ => ⟨rfl, rfl⟩⟩
  | 6, _, _ => ⟨rfl, fun _ => ⟨rfl, rfl⟩⟩
  | 7, _, h => by simp [am_isI] at h
  | 8, _, h => by simp [am_isI] at h
  | 9, _, h => by simp [am_isI] at h
  | k + 10, h, _ => by omega
theorem am_tyR_7 : ∀ k, k < 32 → am_isI 7 k = false → defaultValue (am_ty 7 k) = .null ∧ ∀ a, narrow (am_ty 7 k) (.ref a) = .ref a ∧ fits (am_ty 7 k) (.ref a) = true
  | 0, _, h => by simp [am_isI] at h
  | 1, _, h => by simp [am_isI] at h
  | 2, _, h => by simp [am_isI] at h
  | 3, _, h => by simp [am_isI] at h
  | 4, _, _ => ⟨rfl, fun _ => ⟨rfl, rfl⟩⟩
  | 5, _, _ => ⟨rfl, fun _ => ⟨rfl, rfl⟩⟩
  | 6, _, h => by simp [am_isI] at h
  | 7, _, h => by simp [am_isI] at h
  | 8, _, h => by simp [am_isI] at h
  | 9, _, _ => ⟨rfl, fun _ => ⟨rfl, rfl⟩⟩
  | 10, _, _ => ⟨rfl, fun _ => ⟨rfl, rfl⟩⟩
  | 11, _, _ => ⟨rfl, fun _ => ⟨rfl, rfl⟩⟩
  | 12, _, _ => ⟨rfl, fun _ => ⟨rfl, rfl⟩⟩
  | 13, _, _ => ⟨rfl, fun _ => ⟨rfl, rfl⟩⟩
  | 14, _, _ => ⟨rfl, fun _ => ⟨rfl, rfl⟩⟩
  | 15, _, _ => ⟨rfl, fun _ => ⟨rfl, rfl⟩⟩
  | 16, _, _ => ⟨rfl, fun _ => ⟨rfl, rfl⟩⟩
  | 17, _, _ => ⟨rfl, fun _ => ⟨rfl, rfl⟩⟩
  | 18, _, h => by simp [am_isI] at h
  | 19, _, h => by simp [am_isI] at h
  | 20, _, h => by simp [am_isI] at h
  | 21, _, h => by simp [am_isI] at h
  | 22, _, _ => ⟨rfl, fun _ => ⟨rfl, rfl⟩⟩
  | 23, _, h => by simp [am_isI] at h
  | 24, _, _ => ⟨rfl, fun _ => ⟨rfl, rfl⟩⟩
  | 25, _, _ => ⟨rfl, fun _ => ⟨rfl, rfl⟩⟩
  | 26, _, _ => ⟨rfl, fun _ => ⟨rfl, rfl⟩⟩
  | 27, _, _ => ⟨rfl, fun _ => ⟨rfl, rfl⟩⟩
  | 28, _, _ => ⟨rfl, fun _ => ⟨rfl, rfl⟩⟩
  | 29, _, _ => ⟨rfl, fun _ => ⟨rfl, rfl⟩⟩
  | 30, _, _ => ⟨rfl, fun _ => ⟨rfl, rfl⟩⟩
  | 31, _, h => by simp [am_isI] at h
  | k + 32, h, _ => by omega
theorem am_tyR0 : ∀ ci, ci < 8 → ∀ k, k < am_N ci → am_isI ci k = false → defaultValue (am_ty ci k) = .null ∧ ∀ a, narrow (am_ty ci k) (.ref a) = .ref a ∧ fits (am_ty ci k) (.ref a) = true := by
  intro ci hci k hk hi
  match ci, hci with
  | 0, _ => exact am_tyR_0 k hk hi
  | 1, _ => exact am_tyR_1 k hk hi
  | 2, _ => exact am_tyR_2 k hk hi
  | 3, _ => exact am_tyR_3 k hk hi
  | 4, _ => exact am_tyR_4 k hk hi
  | 5, _ => exact am_tyR_5 k hk hi
  | 6, _ => exact am_tyR_6 k hk hi
  | 7, _ => exact am_tyR_7 k hk hi
/-- what the tables say of a class -/
theorem am_cls {ci : Nat} {C : String} {T : u_T} {N : Nat} (h : vwCl[ci]? = some (C, T, N)) : (∀ w ∈ u_ws C T N, w ∈ am_G) ∧ (∀ k, k < N → parseFieldDescriptor (T k).2.2.1 = some (am_ty ci k)) ∧ (∀ a, a < N → ∀ b, b < N → a ≠ b → (T a).2.1 ≠ (T b).2.1) ∧ am_N ci = N ∧ ci < 8 := by
  match ci, h with
  | 0, h => cases h; exact ⟨fun w hw => am_G_iff.mpr (inX_X0 w hw), tyX0_ok, nmX0, rfl, by decide⟩
  | 1, h => cases h; exact ⟨fun w hw => am_G_iff.mpr (inX_X1 w hw), tyX1_ok, nmX1, rfl, by decide⟩
  | 2, h => cases h; exact ⟨fun w hw => am_G_iff.mpr (inX_X2 w hw), tyX2_ok, nmX2, rfl, by decide⟩
  | 3, h => cases h; exact ⟨fun w hw => am_G_iff.mpr (inX_X3 w hw), tyX3_ok, nmX3, rfl, by decide⟩
  | 4, h => cases h; exact ⟨fun w hw => am_G_iff.mpr (inX_X4 w hw), tyX4_ok, nmX4, rfl, by decide⟩
  | 5, h => cases h; exact ⟨fun w hw => am_G_iff.mpr (inX_X5 w hw), tyX5_ok, nmX5, rfl, by decide⟩
  | 6, h => cases h; exact ⟨fun w hw => am_G_iff.mpr (inX_X7 w hw), tyX7_ok, nmX7, rfl, by decide⟩
  | 7, h => cases h; exact ⟨fun w hw => am_G_iff.mpr (inX_X8 w hw), tyX8_ok, nmX8, rfl, by decide⟩
  | ci + 8, h => simp [vwCl] at h
theorem am_hts {args : Array Value} {s : State} (h : ∀ w, am_T w → w.before args s = true) : ∀ w ∈ am_G, w.before args s = true := fun w hw => h w (am_G_iff.mp hw)
def am_fl (own : String) (idx ci k : Nat) : Prop := ∃ (C : String) (T : u_T) (N : Nat), vwCl[ci]? = some (C, T, N) ∧ k < N ∧ am_T (.fieldLink own idx (T k).1 (T k).2.1 (T k).2.2.1)
/-- a cell that is there, of a kind -/
def am_in (ρ : am_H) (x : Int) (ci : Nat) : Prop := 0 < x ∧ x < ρ 0 0 ∧ am_K x = ci
theorem am_E_obj {cI cS : ClassId} {ad : Int → Nat} {ρ h : am_H} {x : Int} {ci : Nat} (hk : am_K x = ci) (h8 : ci < 8) : am_E cI cS ad ρ h x = .inr (ci, (List.range (am_N ci)).map (am_fv ad ρ h ci x)) := by
  subst hk
  unfold am_E
  rw [if_neg (by omega), if_neg (by omega)]
theorem am_E_arr {cI cS : ClassId} {ad : Int → Nat} {ρ h : am_H} {x : Int} (hk : am_K x = 8) : am_E cI cS ad ρ h x = .inl (cI, ((ρ x (-1)).toNat, .inl (fun j => Int32.ofInt (h x j)))) := by
  unfold am_E
  rw [if_pos hk]
theorem am_E_shs {cI cS : ClassId} {ad : Int → Nat} {ρ h : am_H} {x : Int} (hk : am_K x = 9) : am_E cI cS ad ρ h x = .inl (cS, ((ρ x (-1)).toNat, .inr (.inr (.inr (.inr (fun j => if ρ x j = 0 then none else some (ad (ρ x j)))))))) := by
  unfold am_E
  rw [if_neg (by omega), if_pos hk]
theorem am_rng_u {ρ h : am_H} {x k v : Int} (hr : am_rng ρ h) (hv : am_okI v) : am_rng ρ (am_u h x k v) := by
  refine ⟨hr.1, fun y j => ?_, hr.2.2⟩
  unfold am_u
  split
  · exact hv
  · exact hr.2.1 y j
theorem am_rng_ur {ρ h : am_H} {x k v : Int} (hr : am_rng ρ h) (hx : 0 < x) (hk : 0 ≤ k) (h0 : 0 ≤ v) (h1 : v < ρ 0 0) : am_rng (am_u ρ x k v) h := by
  have e : am_u ρ x k v 0 0 = ρ 0 0 := am_u_n (by omega)
  refine ⟨by rw [e]; exact hr.1, hr.2.1, fun y => ?_, fun y j hy hj => ?_⟩
  · rw [am_u_n (by omega)]; exact hr.2.2.1 y
  · rw [e]
    unfold am_u
    split
    · exact ⟨h0, h1⟩
    · exact hr.2.2.2 y j hy hj
theorem am_ws_u {cI cS : ClassId} {ad : Int → Nat} {ρ h : am_H} {x k v : Int} (hr : am_rng ρ h) (hx : 0 < x) : am_ws cI cS ad ρ (am_u h x k v) = (am_ws cI cS ad ρ h).set (x.toNat - 1) (ad x, am_E cI cS ad ρ (am_u h x k v) x) :=
  am_ws_set hx rfl (fun y hy hyx => am_E_ext (n := ρ 0 0) hy (fun j hj => (hr.2.2.2 y j hy hj).2) (fun _ _ => rfl) (fun _ => rfl) (fun j _ => am_u_n (by omega)))
theorem am_ws_ur {cI cS : ClassId} {ad : Int → Nat} {ρ h : am_H} {x k v : Int} (hr : am_rng ρ h) (hx : 0 < x) : am_ws cI cS ad (am_u ρ x k v) h = (am_ws cI cS ad ρ h).set (x.toNat - 1) (ad x, am_E cI cS ad (am_u ρ x k v) h x) :=
  am_ws_set hx (am_u_n (by omega)) (fun y hy hyx => am_E_ext (n := ρ 0 0) hy (fun j hj => (hr.2.2.2 y j hy hj).2) (fun _ _ => rfl) (fun j => am_u_n (by omega)) (fun j _ => rfl))
section AMR
variable {M : am_M} {bc bs pc pc' tgt : Nat} {ls ls' : List (Option am_V)} {st st' : List am_V} {ρ h : am_H} {Q : am_Q}
theorem am_getI {x : Int} {idx ci k : Nat} (hd : decode M.2.1 pc = .ok (.getfield idx, 3)) (hp : pc + 3 = pc') (lk : am_fl M.1.cls idx ci k) (hx : am_in ρ x ci) (hI : am_isI ci k = true) (kk : am_WP M bc bs pc' ls (am_I (h x k) :: st) ρ h Q) : am_WP M bc bs pc ls (am_R x :: st) ρ h Q := by
  subst hp
  obtain ⟨C, T, N, hc, hk, hw⟩ := lk
  obtain ⟨hin, hty, hnm, hN, h8⟩ := am_cls hc
  intro p l e R s m args below meth c Z D cI cS A n0 ad0 Cx ad H locs cells slots lc rl os ol hl hcs hss
  have he := am_ws_get (cI := cI) (cS := cS) (ad := ad) (h := h) hx.1 hx.2.1
  rw [am_E_obj hx.2.2 h8, hN] at he
  refine va_get (fs := (List.range N).map (am_fv ad ρ h ci x)) Cx.1.1.1 Cx.1.1.2.1 (am_hts Cx.1.2.1) hin Cx.1.1.2.2.2 Cx.1.2.2.2.1 rl.2.2.2.1 _ he hc k hk (Cx.1.2.1 _ hw) (fun _ z => z) (v := .int (Int32.ofInt (h x k))) ?_ hd (kk p l e R s m args below meth c Z D cI cS A n0 ad0 Cx ad H locs cells slots lc rl (am_okI1 (rl.1.2.1 x k) (am_okt os)) ol hl hcs hss)
  rw [List.getElem?_map, List.getElem?_range hk]
  simp [am_fv, hI]
theorem am_getR {x y : Int} {idx ci k : Nat} (hd : decode M.2.1 pc = .ok (.getfield idx, 3)) (hp : pc + 3 = pc') (lk : am_fl M.1.cls idx ci k) (hx : am_in ρ x ci) (hI : am_isI ci k = false) (hy : ρ x k = y) (hy0 : 0 < y) (kk : am_WP M bc bs pc' ls (am_R y :: st) ρ h Q) : am_WP M bc bs pc ls (am_R x :: st) ρ h Q := by
  subst hp
  obtain ⟨C, T, N, hc, hk, hw⟩ := lk
  obtain ⟨hin, hty, hnm, hN, h8⟩ := am_cls hc
  intro p l e R s m args below meth c Z D cI cS A n0 ad0 Cx ad H locs cells slots lc rl os ol hl hcs hss
  have he := am_ws_get (cI := cI) (cS := cS) (ad := ad) (h := h) hx.1 hx.2.1
  rw [am_E_obj hx.2.2 h8, hN] at he
  have hyn : y < ρ 0 0 := by rw [← hy]; exact (rl.1.2.2.2 x k hx.1 (by omega)).2
  refine va_get (fs := (List.range N).map (am_fv ad ρ h ci x)) Cx.1.1.1 Cx.1.1.2.1 (am_hts Cx.1.2.1) hin Cx.1.1.2.2.2 Cx.1.2.2.2.1 rl.2.2.2.1 _ he hc k hk (Cx.1.2.1 _ hw) (fun _ z => z) (v := .ref (ad y)) ?_ hd (kk p l e R s m args below meth c Z D cI cS A n0 ad0 Cx ad H locs cells slots lc rl (am_okR1 hyn (am_okt os)) ol hl hcs hss)
  rw [List.getElem?_map, List.getElem?_range hk]
  have : ¬ y = 0 := by omega
  simp [am_fv, hI, hy, this]
theorem am_putI {x v : Int} {idx ci k : Nat} (hd : decode M.2.1 pc = .ok (.putfield idx, 3)) (hp : pc + 3 = pc') (lk : am_fl M.1.cls idx ci k) (hx : am_in ρ x ci) (hI : am_isI ci k = true) (kk : am_WP M bc bs pc' ls st ρ (am_u h x k v) Q) (hfin : ∀ C T N, vwCl[ci]? = some (C, T, N) → (T k).2.2.2 = false) : am_WP M bc bs pc ls (am_I v :: am_R x :: st) ρ h Q := by
  subst hp
  obtain ⟨C, T, N, hc, hk, hw⟩ := lk
  obtain ⟨hin, hty, hnm, hN, h8⟩ := am_cls hc
  intro p l e R s m args below meth c Z D cI cS A n0 ad0 Cx ad H locs cells slots lc rl os ol hl hcs hss
  have he := am_ws_get (cI := cI) (cS := cS) (ad := ad) (h := h) hx.1 hx.2.1
  rw [am_E_obj hx.2.2 h8, hN] at he
  have hti : am_ty ci k = .int := am_tyI0 ci h8 k (by omega) hI
  have hE : am_ws cI cS ad ρ (am_u h x k v) = (am_ws cI cS ad ρ h).set (x.toNat - 1) (ad x, .inr (ci, ((List.range N).map (am_fv ad ρ h ci x)).set k (.int (Int32.ofInt v)))) := by
    rw [am_ws_u rl.1 hx.1, am_E_obj hx.2.2 h8, hN]
    congr 4
    refine am_map_set _ _ _ _ _ ?_ (fun j hj => ?_)
    · simp [am_fv, hI, am_u]
    · unfold am_fv
      rw [am_u_n (by omega)]
  refine va_put (fs := (List.range N).map (am_fv ad ρ h ci x)) (v := .int (Int32.ofInt v)) (ty := .int) Cx.1.1.1 Cx.1.1.2.1 (am_hts Cx.1.2.1) hin (am_ty ci) hty hnm Cx.1.1.2.2.2 Cx.1.2.2.2.1 rl.2.2.2.1 rl.2.2.2.2.1 rl.2.2.2.2.2 _ he hc k hk (Cx.1.2.1 _ hw) (fun _ z => z) (hfin C T N hc) (by rw [hty k hk, hti]) rfl rfl (by simpa using hk) hd (fun H1 locs1 hP1 hD1 hS1 => ?_)
  exact kk p l e R s m args below meth c Z D cI cS A n0 ad0 Cx ad H1 locs1 cells slots lc ⟨am_rng_u rl.1 (am_okh os), rl.2.1, rl.2.2.1, by rw [hE]; exact hP1, by rw [hE]; exact hD1, hS1⟩ (am_okt (am_okt os)) ol hl hcs hss
theorem am_hE_R {cI cS : ClassId} {ad : Int → Nat} {x v : Int} {ci k N : Nat} (hr : am_rng ρ h) (hx : am_in ρ x ci) (h8 : ci < 8) (hN : am_N ci = N) (hI : am_isI ci k = false) (hv0 : 0 < v) : am_ws cI cS ad (am_u ρ x k v) h = (am_ws cI cS ad ρ h).set (x.toNat - 1) (ad x, .inr (ci, ((List.range N).map (am_fv ad ρ h ci x)).set k (.ref (ad v)))) := by
  rw [am_ws_ur hr hx.1, am_E_obj hx.2.2 h8, hN]
  congr 4
  have : ¬ v = 0 := by omega
  refine am_map_set _ _ _ _ _ ?_ (fun j hj => ?_)
  · simp [am_fv, hI, am_u, this]
  · unfold am_fv
    rw [am_u_n (by omega)]
theorem am_putR {x v : Int} {idx ci k : Nat} (hd : decode M.2.1 pc = .ok (.putfield idx, 3)) (hp : pc + 3 = pc') (lk : am_fl M.1.cls idx ci k) (hx : am_in ρ x ci) (hI : am_isI ci k = false) (hv0 : 0 < v) (kk : am_WP M bc bs pc' ls st (am_u ρ x k v) h Q) (hfin : ∀ C T N, vwCl[ci]? = some (C, T, N) → (T k).2.2.2 = false) : am_WP M bc bs pc ls (am_R v :: am_R x :: st) ρ h Q := by
  subst hp
  obtain ⟨C, T, N, hc, hk, hw⟩ := lk
  obtain ⟨hin, hty, hnm, hN, h8⟩ := am_cls hc
  intro p l e R s m args below meth c Z D cI cS A n0 ad0 Cx ad H locs cells slots lc rl os ol hl hcs hss
  have he := am_ws_get (cI := cI) (cS := cS) (ad := ad) (h := h) hx.1 hx.2.1
  rw [am_E_obj hx.2.2 h8, hN] at he
  have hti := (am_tyR0 ci h8 k (by omega) hI).2 (ad v)
  have hE := am_hE_R (cI := cI) (cS := cS) (ad := ad) rl.1 hx h8 hN hI hv0
  have en : am_u ρ x k v 0 0 = ρ 0 0 := am_u_n (by have := hx.1; omega)
  refine va_put (fs := (List.range N).map (am_fv ad ρ h ci x)) (v := .ref (ad v)) (ty := am_ty ci k) Cx.1.1.1 Cx.1.1.2.1 (am_hts Cx.1.2.1) hin (am_ty ci) hty hnm Cx.1.1.2.2.2 Cx.1.2.2.2.1 rl.2.2.2.1 rl.2.2.2.2.1 rl.2.2.2.2.2 _ he hc k hk (Cx.1.2.1 _ hw) (fun _ z => z) (hfin C T N hc) (hty k hk) hti.1 hti.2 (by simpa using hk) hd (fun H1 locs1 hP1 hD1 hS1 => ?_)
  exact kk p l e R s m args below meth c Z D cI cS A n0 ad0 Cx ad H1 locs1 cells slots lc ⟨am_rng_ur rl.1 hx.1 (by omega) (by omega) (am_okh os), by rw [en]; exact rl.2.1, rl.2.2.1, by rw [hE]; exact hP1, by rw [hE]; exact hD1, hS1⟩ (by rw [en]; exact am_okt (am_okt os)) (by rw [en]; exact ol) hl hcs hss
theorem am_putF {x v : Int} {idx ci k : Nat} (hd : decode M.2.1 pc = .ok (.putfield idx, 3)) (hp : pc + 3 = pc') (lk : am_fl M.1.cls idx ci k) (hx : am_in ρ x ci) (hI : am_isI ci k = false) (hv0 : 0 < v) (kk : am_WP M bc bs pc' ls st (am_u ρ x k v) h Q) (hfin : ∀ C T N, vwCl[ci]? = some (C, T, N) → (T k).2.2.2 = true ∧ (T k).1 = M.1.cls) (hin2 : M.1.name = "<init>") : am_WP M bc bs pc ls (am_R v :: am_R x :: st) ρ h Q := by
  subst hp
  obtain ⟨C, T, N, hc, hk, hw⟩ := lk
  obtain ⟨hin, hty, hnm, hN, h8⟩ := am_cls hc
  intro p l e R s m args below meth c Z D cI cS A n0 ad0 Cx ad H locs cells slots lc rl os ol hl hcs hss
  have he := am_ws_get (cI := cI) (cS := cS) (ad := ad) (h := h) hx.1 hx.2.1
  rw [am_E_obj hx.2.2 h8, hN] at he
  have hti := (am_tyR0 ci h8 k (by omega) hI).2 (ad v)
  have hE := am_hE_R (cI := cI) (cS := cS) (ad := ad) rl.1 hx h8 hN hI hv0
  have en : am_u ρ x k v 0 0 = ρ 0 0 := am_u_n (by have := hx.1; omega)
  refine va_putF (fs := (List.range N).map (am_fv ad ρ h ci x)) (v := .ref (ad v)) (ty := am_ty ci k) Cx.1.1.1 Cx.1.1.2.1 (am_hts Cx.1.2.1) hin (am_ty ci) hty hnm Cx.1.1.2.2.2 Cx.1.2.2.2.1 rl.2.2.2.1 rl.2.2.2.2.1 rl.2.2.2.2.2 _ he hc k hk (Cx.1.2.1 _ hw) (fun _ z => z) (hfin C T N hc).1 (Cx.1.2.2.1 hin2) (hfin C T N hc).2 (hty k hk) hti.1 hti.2 (by simpa using hk) hd (fun H1 locs1 hP1 hD1 hS1 => ?_)
  exact kk p l e R s m args below meth c Z D cI cS A n0 ad0 Cx ad H1 locs1 cells slots lc ⟨am_rng_ur rl.1 hx.1 (by omega) (by omega) (am_okh os), by rw [en]; exact rl.2.1, rl.2.2.1, by rw [hE]; exact hP1, by rw [hE]; exact hD1, hS1⟩ (by rw [en]; exact am_okt (am_okt os)) (by rw [en]; exact ol) hl hcs hss
end AMR
end
section
/-! rows of ints, rows of sheets, new cells -/
theorem am_vin {i len : Int} (hi : am_okI i) (h0 : 0 ≤ i) (h1 : i < len) : vp_in (Int32.ofInt i) len.toNat := by
  rw [vp_in_iff, am_toInt hi]
  exact ⟨h0, by omega⟩
theorem am_clamp {i : Int} (hi : am_okI i) (h0 : 0 ≤ i) : (Int32.ofInt i).toNatClampNeg = i.toNat := by
  show (Int32.ofInt i).toInt.toNat = _
  rw [am_toInt hi]
theorem am_okIx {i len : Int} (h0 : 0 ≤ i) (h1 : i < len) (h2 : len < 2147483648) : am_okI i := ⟨by omega, by omega⟩
/-- a row written over by another's cells -/
def am_cpy (h : am_H) (a sp b dp n : Int) : am_H := fun y j => if y = b ∧ dp ≤ j ∧ j < dp + n then h a (sp + (j - dp)) else h y j
section AMR
variable {M : am_M} {bc bs pc pc' tgt : Nat} {ls ls' : List (Option am_V)} {st st' : List am_V} {ρ h : am_H} {Q : am_Q}
theorem am_iaload {a i : Int} (hd : decode M.2.1 pc = .ok (.iaload, 1)) (hp : pc + 1 = pc') (ha : am_in ρ a 8) (h0 : 0 ≤ i) (h1 : i < ρ a (-1)) (kk : am_WP M bc bs pc' ls (am_I (h a i) :: st) ρ h Q) : am_WP M bc bs pc ls (am_I i :: am_R a :: st) ρ h Q := by
  subst hp
  intro p l e R s m args below meth c Z D cI cS A n0 ad0 Cx ad H locs cells slots lc rl os ol hl hcs hss
  have he := am_ws_get (cI := cI) (cS := cS) (ad := ad) (h := h) ha.1 ha.2.1
  rw [am_E_arr ha.2.2] at he
  have hi : am_okI i := am_okh os
  refine va_iald Cx.1.1.1 Cx.1.1.2.1 Cx.1.2.2.2.1 rl.2.2.2.1 _ 0 he rfl (am_vin hi h0 h1) hd ?_
  have kw := kk p l e R s m args below meth c Z D cI cS A n0 ad0 Cx ad H locs cells slots lc rl (am_okI1 (rl.1.2.1 a i) (am_okt (am_okt os))) ol hl hcs hss
  rw [am_clamp hi h0, Int.toNat_of_nonneg h0]
  exact kw
theorem am_iastore {a i v : Int} (hd : decode M.2.1 pc = .ok (.iastore, 1)) (hp : pc + 1 = pc') (ha : am_in ρ a 8) (h0 : 0 ≤ i) (h1 : i < ρ a (-1)) (kk : am_WP M bc bs pc' ls st ρ (am_u h a i v) Q) : am_WP M bc bs pc ls (am_I v :: am_I i :: am_R a :: st) ρ h Q := by
  subst hp
  intro p l e R s m args below meth c Z D cI cS A n0 ad0 Cx ad H locs cells slots lc rl os ol hl hcs hss
  have he := am_ws_get (cI := cI) (cS := cS) (ad := ad) (h := h) ha.1 ha.2.1
  rw [am_E_arr ha.2.2] at he
  have hi : am_okI i := am_okh (am_okt os)
  have hE : am_ws cI cS ad ρ (am_u h a i v) = (am_ws cI cS ad ρ h).set (a.toNat - 1) (ad a, .inl (cI, (ρ a (-1)).toNat, .inl (upd (fun j => Int32.ofInt (h a j)) (Int32.ofInt i).toNatClampNeg (Int32.ofInt v)))) := by
    rw [am_ws_u rl.1 ha.1, am_E_arr ha.2.2, am_clamp hi h0]
    have e9 : (fun j : Nat => Int32.ofInt (am_u h a i v a j)) = upd (fun j => Int32.ofInt (h a j)) i.toNat (Int32.ofInt v) := by
      funext j
      unfold upd am_u
      by_cases hj : j = i.toNat
      · rw [if_pos hj, if_pos ⟨rfl, by omega⟩]
      · rw [if_neg hj, if_neg (by omega)]
    rw [e9]
  refine va_iast Cx.1.1.1 Cx.1.1.2.1 Cx.1.2.2.2.1 rl.2.2.2.1 rl.2.2.2.2.1 rl.2.2.2.2.2 _ 0 he rfl (am_vin hi h0 h1) hd (fun H1 locs1 hP1 hD1 hS1 => ?_)
  exact kk p l e R s m args below meth c Z D cI cS A n0 ad0 Cx ad H1 locs1 cells slots lc ⟨am_rng_u rl.1 (am_okh os), rl.2.1, rl.2.2.1, by rw [hE]; exact hP1, by rw [hE]; exact hD1, hS1⟩ (am_okt (am_okt (am_okt os))) ol hl hcs hss
theorem am_alen {a n : Int} (hd : decode M.2.1 pc = .ok (.arraylength, 1)) (hp : pc + 1 = pc') (ha : am_in ρ a 8) (hn : ρ a (-1) = n) (kk : am_WP M bc bs pc' ls (am_I n :: st) ρ h Q) : am_WP M bc bs pc ls (am_R a :: st) ρ h Q := by
  subst hp
  subst hn
  intro p l e R s m args below meth c Z D cI cS A n0 ad0 Cx ad H locs cells slots lc rl os ol hl hcs hss
  have he := am_ws_get (cI := cI) (cS := cS) (ad := ad) (h := h) ha.1 ha.2.1
  rw [am_E_arr ha.2.2] at he
  have hln := rl.1.2.2.1 a
  refine va_alen (v := Int32.ofInt (ρ a (-1))) Cx.1.1.1 Cx.1.1.2.1 Cx.1.2.2.2.1 rl.2.2.2.1 _ 0 he rfl ?_ hd (kk p l e R s m args below meth c Z D cI cS A n0 ad0 Cx ad H locs cells slots lc rl (am_okI1 ⟨by omega, by omega⟩ (am_okt os)) ol hl hcs hss)
  show Int32.ofNat (ρ a (-1)).toNat = _
  rw [← Int32.ofInt_eq_ofNat, Int.toNat_of_nonneg hln.1]
theorem am_alenS {a n : Int} (hd : decode M.2.1 pc = .ok (.arraylength, 1)) (hp : pc + 1 = pc') (ha : am_in ρ a 9) (hn : ρ a (-1) = n) (kk : am_WP M bc bs pc' ls (am_I n :: st) ρ h Q) : am_WP M bc bs pc ls (am_R a :: st) ρ h Q := by
  subst hp
  subst hn
  intro p l e R s m args below meth c Z D cI cS A n0 ad0 Cx ad H locs cells slots lc rl os ol hl hcs hss
  have he := am_ws_get (cI := cI) (cS := cS) (ad := ad) (h := h) ha.1 ha.2.1
  rw [am_E_shs ha.2.2] at he
  have hln := rl.1.2.2.1 a
  refine va_alen (v := Int32.ofInt (ρ a (-1))) Cx.1.1.1 Cx.1.1.2.1 Cx.1.2.2.2.1 rl.2.2.2.1 _ 1 he rfl ?_ hd (kk p l e R s m args below meth c Z D cI cS A n0 ad0 Cx ad H locs cells slots lc rl (am_okI1 ⟨by omega, by omega⟩ (am_okt os)) ol hl hcs hss)
  show Int32.ofNat (ρ a (-1)).toNat = _
  rw [← Int32.ofInt_eq_ofNat, Int.toNat_of_nonneg hln.1]
theorem am_aaload {a i y : Int} (hd : decode M.2.1 pc = .ok (.aaload, 1)) (hp : pc + 1 = pc') (ha : am_in ρ a 9) (h0 : 0 ≤ i) (h1 : i < ρ a (-1)) (hy : ρ a i = y) (hy0 : 0 < y) (kk : am_WP M bc bs pc' ls (am_R y :: st) ρ h Q) : am_WP M bc bs pc ls (am_I i :: am_R a :: st) ρ h Q := by
  subst hp
  intro p l e R s m args below meth c Z D cI cS A n0 ad0 Cx ad H locs cells slots lc rl os ol hl hcs hss
  have he := am_ws_get (cI := cI) (cS := cS) (ad := ad) (h := h) ha.1 ha.2.1
  rw [am_E_shs ha.2.2] at he
  have hi : am_okI i := am_okh os
  have hyn : y < ρ 0 0 := by rw [← hy]; exact (rl.1.2.2.2 a i ha.1 h0).2
  refine va_aldq Cx.1.1.1 Cx.1.1.2.1 Cx.1.2.2.2.1 rl.2.2.2.1 _ 1 he rfl (am_vin hi h0 h1) hd ?_
  have kw := kk p l e R s m args below meth c Z D cI cS A n0 ad0 Cx ad H locs cells slots lc rl (am_okR1 hyn (am_okt (am_okt os))) ol hl hcs hss
  rw [am_clamp hi h0, Int.toNat_of_nonneg h0, hy, if_neg (by omega)]
  exact kw
theorem am_aastore {a i v : Int} (hd : decode M.2.1 pc = .ok (.aastore, 1)) (hp : pc + 1 = pc') (ha : am_in ρ a 9) (hv : am_in ρ v 4) (h0 : 0 ≤ i) (h1 : i < ρ a (-1)) (kk : am_WP M bc bs pc' ls st (am_u ρ a i v) h Q) : am_WP M bc bs pc ls (am_R v :: am_I i :: am_R a :: st) ρ h Q := by
  subst hp
  intro p l e R s m args below meth c Z D cI cS A n0 ad0 Cx ad H locs cells slots lc rl os ol hl hcs hss
  have he := am_ws_get (cI := cI) (cS := cS) (ad := ad) (h := h) ha.1 ha.2.1
  rw [am_E_shs ha.2.2] at he
  have hev := am_ws_get (cI := cI) (cS := cS) (ad := ad) (h := h) hv.1 hv.2.1
  rw [am_E_obj hv.2.2 (by decide)] at hev
  have hi : am_okI i := am_okh (am_okt os)
  have en : am_u ρ a i v 0 0 = ρ 0 0 := am_u_n (by have := ha.1; omega)
  have hE : am_ws cI cS ad (am_u ρ a i v) h = (am_ws cI cS ad ρ h).set (a.toNat - 1) (ad a, .inl (cS, (ρ a (-1)).toNat, .inr (.inr (.inr (.inr (va_up (fun j : Nat => if ρ a j = 0 then none else some (ad (ρ a j))) (Int32.ofInt i).toNatClampNeg (some (ad v)))))))) := by
    rw [am_ws_ur rl.1 ha.1, am_E_shs ha.2.2, am_clamp hi h0, am_u_n (by omega)]
    have e9 : (fun j : Nat => if am_u ρ a i v a j = 0 then none else some (ad (am_u ρ a i v a j))) = va_up (fun j : Nat => if ρ a j = 0 then none else some (ad (ρ a j))) i.toNat (some (ad v)) := by
      funext j
      have := hv.1
      by_cases hj : j = i.toNat
      · have e8 : am_u ρ a i v a j = v := by unfold am_u; rw [if_pos ⟨rfl, by omega⟩]
        rw [e8, if_neg (by omega)]
        simp [va_up, hj]
      · have e8 : am_u ρ a i v a j = ρ a j := am_u_n (by omega)
        rw [e8]
        simp [va_up, hj]
    rw [e9]
  refine va_astq (r := (RX4, TX4, 3)) Cx.1.1.1 Cx.1.1.2.1 Cx.1.2.2.2.1 rl.2.2.2.1 rl.2.2.2.2.1 rl.2.2.2.2.2 _ 1 _ 4 he rfl hev rfl (am_vin hi h0 h1) hd (fun H1 locs1 hP1 hD1 hS1 => ?_)
  exact kk p l e R s m args below meth c Z D cI cS A n0 ad0 Cx ad H1 locs1 cells slots lc ⟨am_rng_ur rl.1 ha.1 h0 (by have := hv.1; omega) hv.2.1, by rw [en]; exact rl.2.1, rl.2.2.1, by rw [hE]; exact hP1, by rw [hE]; exact hD1, hS1⟩ (by rw [en]; exact am_okt (am_okt (am_okt os))) (by rw [en]; exact ol) hl hcs hss
theorem am_acopy {a b sp dp n : Int} {idx : Nat} (hd : decode M.2.1 pc = .ok (.invokestatic idx, 3)) (hp : pc + 3 = pc') (lk : am_T (.methodLink M.1.cls idx arraycopyName)) (w1 : am_T (.native arraycopyName)) (w2 : am_T (.static arraycopyName)) (w3 : am_T (.initialized "java/lang/System")) (ha : am_in ρ a 8) (hb : am_in ρ b 8)
    (h0 : 0 ≤ sp) (h1 : 0 ≤ dp) (h2 : 0 ≤ n) (h3 : sp + n ≤ ρ a (-1)) (h4 : dp + n ≤ ρ b (-1)) (hlev : (1 ≤ M.2.2.2.2.1)) (hrest : st = []) (kk : am_WP M bc bs pc' ls st ρ (am_cpy h a sp b dp n) Q) : am_WP M bc bs pc ls (am_I n :: am_I dp :: am_R b :: am_I sp :: am_R a :: st) ρ h Q := by
  subst hp
  subst hrest
  intro p l e R s m args below meth c Z D cI cS A n0 ad0 Cx ad H locs cells slots lc rl os ol hl hcs hss
  have hea := am_ws_get (cI := cI) (cS := cS) (ad := ad) (h := h) ha.1 ha.2.1
  rw [am_E_arr ha.2.2] at hea
  have heb := am_ws_get (cI := cI) (cS := cS) (ad := ad) (h := h) hb.1 hb.2.1
  rw [am_E_arr hb.2.2] at heb
  have kn : am_okI n := am_okh os
  have kd : am_okI dp := am_okh (am_okt os)
  have ks : am_okI sp := am_okh (am_okt (am_okt (am_okt os)))
  have hrng : am_rng ρ (am_cpy h a sp b dp n) := by
    refine ⟨rl.1.1, fun y j => ?_, rl.1.2.2⟩
    unfold am_cpy
    split
    · exact rl.1.2.1 _ _
    · exact rl.1.2.1 _ _
  have hE : am_ws cI cS ad ρ (am_cpy h a sp b dp n) = (am_ws cI cS ad ρ h).set (b.toNat - 1) (ad b, .inl (cI, (ρ b (-1)).toNat, .inl (va_cpy (fun j => Int32.ofInt (h a j)) (fun j => Int32.ofInt (h b j)) (Int32.ofInt sp).toNatClampNeg (Int32.ofInt dp).toNatClampNeg (Int32.ofInt n).toNatClampNeg))) := by
    rw [am_ws_set (ρ := ρ) (h := h) hb.1 rfl (fun y hy hyx => am_E_ext (n := ρ 0 0) hy (fun j hj => (rl.1.2.2.2 y j hy hj).2) (fun _ _ => rfl) (fun _ => rfl) (fun j _ => by unfold am_cpy; rw [if_neg (by omega)])), am_E_arr hb.2.2, am_clamp ks h0, am_clamp kd h1, am_clamp kn h2]
    have e9 : (fun j : Nat => Int32.ofInt (am_cpy h a sp b dp n b j)) = va_cpy (fun j => Int32.ofInt (h a j)) (fun j => Int32.ofInt (h b j)) sp.toNat dp.toNat n.toNat := by
      funext j
      unfold va_cpy am_cpy
      by_cases hj : dp.toNat ≤ j ∧ j < dp.toNat + n.toNat
      · rw [if_pos hj, if_pos ⟨rfl, by omega, by omega⟩]
        congr 2
        omega
      · rw [if_neg hj, if_neg (by omega)]
    rw [e9]
  have hR : R.frames = M.2.2.2.2.1 := Cx.1.2.2.2.2.2.1
  have hL : R.locals = 36 * M.2.2.2.2.1 := Cx.1.2.2.2.2.2.2.1
  refine va_copyi Cx.1.1.1 Cx.1.1.2.1 (Cx.1.1.2.2.1.trans hl.1.symm) Cx.1.1.2.2.2 (Cx.1.2.1 _ lk) (Cx.1.2.1 _ w1) (Cx.1.2.1 _ w2) (Cx.1.2.1 _ w3) Cx.1.2.2.2.1 rl.2.2.2.1 rl.2.2.2.2.1 rl.2.2.2.2.2 _ _ 0 0 (ty := .int) hea heb rfl rfl rfl (by rw [am_lt0 ks]; omega) (by rw [am_lt0 kd]; omega) (by rw [am_lt0 kn]; omega) (by rw [am_clamp ks h0, am_clamp kn h2]; omega) (by rw [am_clamp kd h1, am_clamp kn h2]; omega) (fun _ _ => rfl) (by omega) (by
      rw [hL]
      refine Nat.le_trans (m := 36) ?_ (by omega)
      show 0 + (nativeFrameWords "java/lang/System" "arraycopy" 5 + 11) ≤ 36
      decide +kernel) hd (fun H1 locs1 hP1 hD1 hS1 => ?_)
  exact kk p l e R s m args below meth c Z D cI cS A n0 ad0 Cx ad H1 locs1 cells slots lc ⟨hrng, rl.2.1, rl.2.2.1, by rw [hE]; exact hP1, by rw [hE]; exact hD1, hS1⟩ (fun v hv => by cases hv) ol hl hcs hss
end AMR
end
section
/-! new cells -/
theorem am_newR_n {ρ : am_H} (n : Int) (h0 : 0 < ρ 0 0) : am_newR ρ n 0 0 = ρ 0 0 + 1 := by
  unfold am_newR
  rw [if_neg (by omega), if_pos ⟨rfl, rfl⟩]
theorem am_newR_o {ρ : am_H} {n y j : Int} (h0 : 0 < y) (h1 : y ≠ ρ 0 0) : am_newR ρ n y j = ρ y j := by
  unfold am_newR
  rw [if_neg h1, if_neg (by omega)]
theorem am_rng_new {ρ h : am_H} {n : Int} (hr : am_rng ρ h) (h0 : 0 ≤ n) (h1 : n < 2147483648) : am_rng (am_newR ρ n) (am_newH ρ h) := by
  have hp := hr.1
  refine ⟨by rw [am_newR_n n hp]; omega, fun y j => ?_, fun y => ?_, fun y j hy hj => ?_⟩
  · unfold am_newH
    split
    · exact am_ok0
    · exact hr.2.1 y j
  · unfold am_newR
    split
    · rw [if_pos rfl]; exact ⟨h0, h1⟩
    · rw [if_neg (by omega)]; exact hr.2.2.1 y
  · rw [am_newR_n n hp]
    by_cases hy2 : y = ρ 0 0
    · unfold am_newR
      rw [if_pos hy2, if_neg (by omega)]
      omega
    · rw [am_newR_o hy hy2]
      have := hr.2.2.2 y j hy hj
      omega
theorem am_ws_new {cI cS : ClassId} {ad : Int → Nat} {ρ h : am_H} {n : Int} (q : Nat) (hr : am_rng ρ h) : am_ws cI cS (fun y => if y = ρ 0 0 then q else ad y) (am_newR ρ n) (am_newH ρ h) = am_ws cI cS ad ρ h ++ [(q, am_E cI cS (fun y => if y = ρ 0 0 then q else ad y) (am_newR ρ n) (am_newH ρ h) (ρ 0 0))] := by
  have e := am_ws_push (cI := cI) (cS := cS) (ad := ad) (ad' := fun y => if y = ρ 0 0 then q else ad y) (ρ := ρ) (h := h) (ρ' := am_newR ρ n) (h' := am_newH ρ h) hr.1 (am_newR_n n hr.1) (fun y hy => by simp; intro z; omega) (fun y hy hy2 => am_E_ext (n := ρ 0 0) hy (fun j hj => (hr.2.2.2 y j hy hj).2) (fun z hz => by simp; intro w; omega) (fun j => am_newR_o hy (by omega)) (fun j _ => by unfold am_newH; rw [if_neg (by omega)]))
  simpa using e
section AMR
variable {M : am_M} {bc bs pc pc' tgt : Nat} {ls ls' : List (Option am_V)} {st st' : List am_V} {ρ h : am_H} {Q : am_Q}
theorem am_newarr {n : Int} (hd : decode M.2.1 pc = .ok (.newarray .int, 2)) (hp : pc + 2 = pc') (hw : am_T (.arrayClass .int)) (h0 : 0 ≤ n) (h1 : n ≤ 100000000) (hk : am_K (ρ 0 0) = 8) (kk : am_WP M bc bs pc' ls (am_R (ρ 0 0) :: st) (am_newR ρ n) (am_newH ρ h) Q) : am_WP M (bc + 1) (bs + n.toNat) pc ls (am_I n :: st) ρ h Q := by
  subst hp
  intro p l e R s m args below meth c Z D cI cS A n0 ad0 Cx ad H locs cells slots lc rl os ol hl hcs hss
  have hp0 := rl.1.1
  have kn : am_okI n := am_okh os
  refine va_newa (atype := .int) (ty := .int) (a0 := (n.toNat, .inl (fun _ => 0))) Cx.1.1.1 Cx.1.1.2.1 (Cx.1.2.1 _ hw) rfl Cx.1.2.2.2.1 rl.2.2.2.1 rl.2.2.2.2.1 rl.2.2.2.2.2 Cx.1.2.2.2.2.1 (fun _ => rfl) (by rw [am_lt0 kn]; omega) (am_clamp kn h0) (by show n.toNat * 4 ≤ _; omega) (by omega) (by omega) hd (fun q cA H1 hK1 hP1 hD1 hS1 => ?_)
  have hcA : cA = cI := by
    have e1 := (hK1.2 2 (cA, .int) rfl).2
    have e2 := (Cx.1.2.2.2.1.2 0 (cI, .int) rfl).2
    exact Option.some.inj (e1.symm.trans e2)
  subst hcA
  have hE := am_ws_new (cI := cA) (cS := cS) (ad := ad) (n := n) q rl.1
  have hEn : am_E cA cS (fun y => if y = ρ 0 0 then q else ad y) (am_newR ρ n) (am_newH ρ h) (ρ 0 0) = .inl (cA, n.toNat, .inl (fun _ => 0)) := by
    rw [am_E_arr hk]
    have e1 : am_newR ρ n (ρ 0 0) (-1) = n := by unfold am_newR; rw [if_pos rfl, if_pos rfl]
    have e2 : (fun j : Nat => Int32.ofInt (am_newH ρ h (ρ 0 0) j)) = fun _ => 0 := by funext j; unfold am_newH; rw [if_pos rfl]; exact am_0
    rw [e1, e2]
  rw [hEn] at hE
  have hag : ∀ x, x < ρ 0 0 → (fun y => if y = ρ 0 0 then q else ad y) x = ad x := fun x hx => by simp; intro z; omega
  have en := am_newR_n n hp0
  have kw := kk p l e R s m args below meth c Z D cA cS A n0 ad0 Cx (fun y => if y = ρ 0 0 then q else ad y) H1 locs (cells + 1) (slots + n.toNat) lc ⟨am_rng_new rl.1 h0 (by omega), by rw [en]; have := rl.2.1; omega, fun x hx => by rw [hag x (by have := rl.2.1; omega)]; exact rl.2.2.1 x hx, by rw [hE]; exact hP1, by rw [hE]; exact hD1, hS1⟩
    (am_okR1 (by rw [en]; omega) (fun v hv => am_okV_mono (by rw [en]; omega) (am_okt os v hv))) (fun v hv => am_okV_mono (by rw [en]; omega) (ol v hv)) (by rw [am_lv_ext (ρ 0 0) hag ls 0 ol]; exact hl) (by omega) (by omega)
  rw [List.map_cons, am_c_R, am_st_ext hag (am_okt os)] at kw
  simpa using kw
theorem am_newsh {n : Int} {idx : Nat} (hd : decode M.2.1 pc = .ok (.anewarray idx, 3)) (hp : pc + 3 = pc') (hw : am_T (.classLink M.1.cls idx RX4)) (h0 : 0 ≤ n) (h1 : n ≤ 100000000) (hk : am_K (ρ 0 0) = 9) (kk : am_WP M bc bs pc' ls (am_R (ρ 0 0) :: st) (am_newR ρ n) (am_newH ρ h) Q) : am_WP M (bc + 1) (bs + n.toNat) pc ls (am_I n :: st) ρ h Q := by
  subst hp
  intro p l e R s m args below meth c Z D cI cS A n0 ad0 Cx ad H locs cells slots lc rl os ol hl hcs hss
  have hp0 := rl.1.1
  have kn : am_okI n := am_okh os
  refine va_newq (C := RX4) (N' := n.toNat) Cx.1.1.1 Cx.1.1.2.1 Cx.1.1.2.2.2 (Cx.1.2.1 _ hw) Cx.1.2.2.2.2.2.2.2.2.2.2 Cx.1.2.2.2.1 rl.2.2.2.1 rl.2.2.2.2.1 rl.2.2.2.2.2 Cx.1.2.2.2.2.1 (by rw [am_lt0 kn]; omega) (am_clamp kn h0) (by omega) (by omega) (by omega) hd (fun q cA H1 hK1 hP1 hD1 hS1 => ?_)
  have hcA : cA = cS := by
    obtain ⟨_, _, _, _, _, e1⟩ := (hK1.2 2 (cA, .object RX4) rfl).2
    obtain ⟨_, _, _, _, _, e2⟩ := (Cx.1.2.2.2.1.2 1 (cS, .object RX4) rfl).2
    exact Option.some.inj (e1.symm.trans e2)
  subst hcA
  have hE := am_ws_new (cI := cI) (cS := cA) (ad := ad) (n := n) q rl.1
  have hEn : am_E cI cA (fun y => if y = ρ 0 0 then q else ad y) (am_newR ρ n) (am_newH ρ h) (ρ 0 0) = .inl (cA, n.toNat, .inr (.inr (.inr (.inr (fun _ => none))))) := by
    rw [am_E_shs hk]
    have e1 : am_newR ρ n (ρ 0 0) (-1) = n := by unfold am_newR; rw [if_pos rfl, if_pos rfl]
    have e2 : ∀ j : Nat, am_newR ρ n (ρ 0 0) j = 0 := fun j => by unfold am_newR; rw [if_pos rfl, if_neg (by omega)]
    rw [e1]
    simp [e2]
  rw [hEn] at hE
  have hag : ∀ x, x < ρ 0 0 → (fun y => if y = ρ 0 0 then q else ad y) x = ad x := fun x hx => by simp; intro z; omega
  have en := am_newR_n n hp0
  have kw := kk p l e R s m args below meth c Z D cI cA A n0 ad0 Cx (fun y => if y = ρ 0 0 then q else ad y) H1 locs (cells + 1) (slots + n.toNat) lc ⟨am_rng_new rl.1 h0 (by omega), by rw [en]; have := rl.2.1; omega, fun x hx => by rw [hag x (by have := rl.2.1; omega)]; exact rl.2.2.1 x hx, by rw [hE]; exact hP1, by rw [hE]; exact hD1, hS1⟩
    (am_okR1 (by rw [en]; omega) (fun v hv => am_okV_mono (by rw [en]; omega) (am_okt os v hv))) (fun v hv => am_okV_mono (by rw [en]; omega) (ol v hv)) (by rw [am_lv_ext (ρ 0 0) hag ls 0 ol]; exact hl) (by omega) (by omega)
  rw [List.map_cons, am_c_R, am_st_ext hag (am_okt os)] at kw
  simpa using kw
theorem am_new {idx ci N : Nat} {C : String} {T : u_T} (hd : decode M.2.1 pc = .ok (.new idx, 3)) (hp : pc + 3 = pc') (hc : vwCl[ci]? = some (C, T, N)) (hw : am_T (.classLink M.1.cls idx C)) (hw2 : am_T (.instantiable C N)) (hw3 : am_T (.initialized C)) (hk : am_K (ρ 0 0) = ci) (kk : am_WP M bc bs pc' ls (am_R (ρ 0 0) :: st) (am_newR ρ 0) (am_newH ρ h) Q) : am_WP M (bc + 1) (bs + N) pc ls st ρ h Q := by
  subst hp
  obtain ⟨hin, hty, hnm, hN, h8⟩ := am_cls hc
  intro p l e R s m args below meth c Z D cI cS A n0 ad0 Cx ad H locs cells slots lc rl os ol hl hcs hss
  have hp0 := rl.1.1
  have e2 : ∀ j : Nat, am_newR ρ 0 (ρ 0 0) j = 0 := fun j => by unfold am_newR; rw [if_pos rfl, if_neg (by omega)]
  have e3 : ∀ j : Nat, am_newH ρ h (ρ 0 0) j = 0 := fun j => by unfold am_newH; rw [if_pos rfl]
  refine va_new (ci := ci) (fs := (List.range N).map (am_fv ad (am_newR ρ 0) (am_newH ρ h) ci (ρ 0 0))) Cx.1.1.1 Cx.1.1.2.1 (am_hts Cx.1.2.1) hin (am_ty ci) hty Cx.1.1.2.2.2 (Cx.1.2.1 _ hw) (Cx.1.2.1 _ hw2) (Cx.1.2.1 _ hw3) Cx.1.2.2.2.1 rl.2.2.2.1 rl.2.2.2.2.1 rl.2.2.2.2.2 Cx.1.2.2.2.2.1 hc (fun j hj => ?_) (by omega) (by omega) hd (fun q H1 hP1 hD1 hS1 => ?_)
  · have e4 : vp_V ((List.range N).map (am_fv ad (am_newR ρ 0) (am_newH ρ h) ci (ρ 0 0))) j = am_fv ad (am_newR ρ 0) (am_newH ρ h) ci (ρ 0 0) j := by
      unfold vp_V
      rw [List.getD_eq_getElem?_getD, List.getElem?_map, List.getElem?_range hj]
      rfl
    rw [e4]
    unfold am_fv
    cases hI : am_isI ci j with
    | true => rw [am_tyI0 ci h8 j (by omega) hI, if_pos rfl, e3, am_0]; rfl
    | false => rw [(am_tyR0 ci h8 j (by omega) hI).1, if_neg (by decide), if_pos (e2 j)]
  have hE := am_ws_new (cI := cI) (cS := cS) (ad := ad) (n := 0) q rl.1
  have hEn : am_E cI cS (fun y => if y = ρ 0 0 then q else ad y) (am_newR ρ 0) (am_newH ρ h) (ρ 0 0) = .inr (ci, (List.range N).map (am_fv ad (am_newR ρ 0) (am_newH ρ h) ci (ρ 0 0))) := by
    rw [am_E_obj hk h8, hN]
    congr 2
    apply List.map_congr_left
    intro j _
    unfold am_fv
    rw [e2]
    simp
  rw [hEn] at hE
  have hag : ∀ x, x < ρ 0 0 → (fun y => if y = ρ 0 0 then q else ad y) x = ad x := fun x hx => by simp; intro z; omega
  have en := am_newR_n 0 hp0
  have kw := kk p l e R s m args below meth c Z D cI cS A n0 ad0 Cx (fun y => if y = ρ 0 0 then q else ad y) H1 locs (cells + 1) (slots + N) lc ⟨am_rng_new rl.1 (by omega) (by omega), by rw [en]; have := rl.2.1; omega, fun x hx => by rw [hag x (by have := rl.2.1; omega)]; exact rl.2.2.1 x hx, by rw [hE]; exact hP1, by rw [hE]; exact hD1, hS1⟩
    (am_okR1 (by rw [en]; omega) (fun v hv => am_okV_mono (by rw [en]; omega) (os v hv))) (fun v hv => am_okV_mono (by rw [en]; omega) (ol v hv)) (by rw [am_lv_ext (ρ 0 0) hag ls 0 ol]; exact hl) (by omega) (by omega)
  rw [List.map_cons, am_c_R, am_st_ext hag os] at kw
  simpa using kw
theorem am_obji {x : Int} {idx : Nat} (hd : decode M.2.1 pc = .ok (.invokespecial idx, 3)) (hp : pc + 3 = pc') (hw : am_T (.methodLink M.1.cls idx objectInit)) (hw2 : am_T (.instanceMethod objectInit)) (hw3 : am_T (.code objectInit ⟨#[0xb1]⟩ 1 none)) (hlev : 1 ≤ M.2.2.2.2.1) (hrest : st = []) (kk : am_WP M bc bs pc' ls st ρ h Q) : am_WP M bc bs pc ls (am_R x :: st) ρ h Q := by
  subst hp
  subst hrest
  intro p l e R s m args below meth c Z D cI cS A n0 ad0 Cx ad H locs cells slots lc rl os ol hl hcs hss
  have hR : R.frames = M.2.2.2.2.1 := Cx.1.2.2.2.2.2.1
  have hL : R.locals = 36 * M.2.2.2.2.1 := Cx.1.2.2.2.2.2.2.1
  refine W.objInit Cx.1.1.1 Cx.1.1.2.1 Cx.1.1.2.2.2 (Cx.1.2.1 _ hw) (Cx.1.2.1 _ hw2) (Cx.1.2.1 _ hw3) rfl (hl.1.trans Cx.1.1.2.2.1.symm) rfl hd (by omega) (by show 2 * 0 + 0 + 12 ≤ _; omega) ?_
  exact kk p l e R s m args below meth c Z D cI cS A n0 ad0 Cx ad H locs cells slots lc rl (am_okt os) ol hl hcs hss
/-! ends -/
theorem am_retv (hd : decode M.2.1 pc = .ok (.return_, 1)) (hr : M.2.2.2.1 = none) (hq : Q none ρ h) : am_WP M bc bs pc ls [] ρ h Q := by
  intro p l e R s m args below meth c Z D cI cS A n0 ad0 Cx ad H locs cells slots lc rl os ol hl hcs hss
  exact Cx.2 none ρ h ad H locs cells slots lc pc hq (Or.inl ⟨rfl, hr, hd⟩) rl (fun v z => by cases z) (by omega) (by omega)
theorem am_reti {v : Int} (hd : decode M.2.1 pc = .ok (.ireturn, 1)) (hr : M.2.2.2.1 = some .int) (hq : Q (some (am_I v)) ρ h) : am_WP M bc bs pc ls [am_I v] ρ h Q := by
  intro p l e R s m args below meth c Z D cI cS A n0 ad0 Cx ad H locs cells slots lc rl os ol hl hcs hss
  exact Cx.2 (some (am_I v)) ρ h ad H locs cells slots lc pc hq (Or.inr (Or.inl ⟨v, rfl, hr, hd⟩)) rl (fun w z => by cases z; exact am_okh os) (by omega) (by omega)
theorem am_retz {v : Int} (hd : decode M.2.1 pc = .ok (.ireturn, 1)) (hr : M.2.2.2.1 = some .boolean) (hv : v = 0 ∨ v = 1) (hq : Q (some (am_I v)) ρ h) : am_WP M bc bs pc ls [am_I v] ρ h Q := by
  intro p l e R s m args below meth c Z D cI cS A n0 ad0 Cx ad H locs cells slots lc rl os ol hl hcs hss
  exact Cx.2 (some (am_I v)) ρ h ad H locs cells slots lc pc hq (Or.inr (Or.inr (Or.inl ⟨v, rfl, hv, hr, hd⟩))) rl (fun w z => by cases z; exact am_okh os) (by omega) (by omega)
theorem am_retl {v : Int} (hd : decode M.2.1 pc = .ok (.lreturn, 1)) (hr : M.2.2.2.1 = some .long) (hq : Q (some (am_L v)) ρ h) : am_WP M bc bs pc ls [am_L v] ρ h Q := by
  intro p l e R s m args below meth c Z D cI cS A n0 ad0 Cx ad H locs cells slots lc rl os ol hl hcs hss
  exact Cx.2 (some (am_L v)) ρ h ad H locs cells slots lc pc hq (Or.inr (Or.inr (Or.inr ⟨v, rfl, hr, hd⟩))) rl (fun w z => by cases z; exact am_okh os) (by omega) (by omega)
end AMR
end
section
/-! CONTRACTS -/
def am_W (M : am_M) : List Cond := .code M.1 M.2.1 M.2.2.1 M.2.2.2.1 :: am_G
def am_CT (M : am_M) (mc ms : Nat) (as : List am_V) (ρ h : am_H) (Q : am_Q) : Prop :=
  ∀ (l : Launch) (D : va_G) (cI cS : ClassId) (ad : Int → Nat) (sz : Nat), am_rng ρ h → (∀ v ∈ as, am_okV (ρ 0 0) v) →
    Met l M.1 (am_W M) { frames := M.2.2.2.2.1, cells := mc, slots := ms, locals := 36 * M.2.2.2.2.1 }
      (va_Pc (as.map (am_c ad)) (fun U => U.heap.size = sz ∧ va_P D vwCl (am_ws cI cS ad ρ h) U.heap ∧ va_K D vwCl [(cI, .int), (cS, .object RX4)] U ∧ va_D (fun _ => True) (am_ws cI cS ad ρ h) ∧ am_X U))
      (fun _ st oc t => (∃ (r : Option am_V) (ρ' h' : am_H) (ad' : Int → Nat), oc = .returned (r.map (am_c ad')) ∧ Q r ρ' h' ∧ (∀ v, r = some v → am_okV (ρ' 0 0) v) ∧ am_rng ρ' h' ∧ ρ 0 0 ≤ ρ' 0 0 ∧ (∀ x, x < ρ 0 0 → ad' x = ad x) ∧ va_P D vwCl (am_ws cI cS ad' ρ' h') t.heap ∧ va_D (va_A (am_ws cI cS ad ρ h) sz) (am_ws cI cS ad' ρ' h')) ∧ va_F (va_A (am_ws cI cS ad ρ h) sz) st t)
      mc ms (va_A (am_ws cI cS ad ρ h) sz)
def am_ok (M : am_M) (n : Nat) : Prop := am_T (.code M.1 M.2.1 M.2.2.1 M.2.2.2.1) ∧ am_T (.initialized M.1.cls) ∧ (M.1.cls ≠ "java/lang/invoke/MethodHandle" ∧ M.1.cls ≠ "java/lang/invoke/VarHandle") ∧ (parseMethodDescriptor M.1.desc).map (fun d => d.parameters.length) = some n ∧ M.2.2.1 ≤ 17 ∧ plainName M.1.cls = true
theorem am_W_good (M : am_M) {n : Nat} (h : am_ok M n) : GoodIn am_G (am_W M) := by
  intro w hw
  rcases List.mem_cons.mp hw with rfl | hw
  · exact ⟨am_G_iff.mpr h.1, good_of_word h.1.2⟩
  · exact ⟨hw, good_of_word (am_G_iff.mp hw).2⟩
theorem am_blind {as : List Value} {sz : Nat} {D : va_G} {ws : va_W} {tys : List (ClassId × FieldType)} : FrameBlind (va_Pc as (fun U => U.heap.size = sz ∧ va_P D vwCl ws U.heap ∧ va_K D vwCl tys U ∧ va_D (fun _ => True) ws ∧ am_X U)) := by
  intro a U g mk q
  obtain ⟨q0, q1, qP, qK, qD, qX⟩ := q
  exact ⟨q0, q1, qP, va_K.moved (u := U) (U := U.calling g mk a) (Vm.Alike.refl U.vm) qK, qD, am_X.same (u := U) (U := U.calling g mk a) rfl qX⟩
theorem am_A_sub {A : Nat → Prop} {H0 H : Heap} {locs : List Loc} {ws : va_W} (hD : va_D A ws) (hS : va_S A H0 H locs) (hA : ∀ q, H0.size ≤ q → A q) : ∀ q, va_A ws H.size q → A q := by
  intro q hq
  rcases hq with ⟨k, e, hk⟩ | hq
  · exact hD.2 k (q, e) hk
  · exact hA q (Nat.le_trans hS.1 hq)
/-- a method's contract out of its walk -/
theorem am_ct {M : am_M} {mc ms n : Nat} {as : List am_V} {ls : List (Option am_V)} {ρ h : am_H} {Q : am_Q} (hok : am_ok M n) (hS : M.2.2.2.2.2 = none) (hlen : ∀ ad, (lg_sl (as.map (am_c ad))).length ≤ M.2.2.1) (hls : ∀ ad, am_lv ad 0 ls = lv_args 0 (as.map (am_c ad))) (hmem : ∀ v, some v ∈ ls → v ∈ as)
    (hw : am_WP M mc ms 0 ls [] ρ h Q) : am_CT M mc ms as ρ h Q := by
  intro l D cI cS ad sz hrng hoks
  refine Met.ofW (cc := M.2.1) (maxL := M.2.2.1) (ret := M.2.2.2.1) (ws' := am_G) hok.2.2.2.2.2 rfl ?_
  intro p e s m args below meth c s₁ B hml hv
  obtain ⟨rfl, hsz, hP, hK, hD0, hX⟩ := hv
  have hx := B.exec
  have hb := B.bytes
  have hr := B.returns
  have hts := atoms_spec (ws := am_W M) B.pre
  have hown : s.vm.findClass M.1.cls = some m.cls := findClass_of_methodNamed B.named
  have hlocks := B.notSynchronized
  have hin : meth.name = M.1.name := (name_of_methodNamed B.named B.method).1
  subst hsz
  have hD := hD0.self (sz := s.heap.size)
  have hl := lv_entry (as.map (am_c ad)) (n := M.2.2.1) (hlen ad)
  rw [← hls ad] at hl
  rw [lg_entry_eq]
  refine hw p l e _ s m _ below meth c _ D cI cS (va_A (am_ws cI cS ad ρ h) s.heap.size) (ρ 0 0) ad ⟨⟨⟨hx, hb, hml, hown⟩, fun w hw => hts w (List.mem_cons_of_mem _ (am_G_iff.mpr hw)), fun z => hin.trans z, hK, fun q hq => Or.inr hq, rfl, rfl, hrng.1, by rw [hS]; trivial, hX⟩, ?_⟩ ad s.heap [] 0 0 _ ⟨hrng, Int.le_refl _, fun _ _ => rfl, hP, hD, va_S.rf⟩ (fun v hv => by cases hv) (fun v hv => hoks v (hmem v hv)) hl (Nat.le_of_eq (Nat.zero_add _)) (Nat.le_of_eq (Nat.zero_add _))
  intro r ρ' h' ad' H locs cells slots lc pc hq hrt hR hokr hc hs
  obtain ⟨r1, r2, r3, r4, r5, r6⟩ := hR
  rcases hrt with ⟨rfl, e1, e2⟩ | ⟨v, rfl, e1, e2⟩ | ⟨v, rfl, hv, e1, e2⟩ | ⟨v, rfl, e1, e2⟩
  · refine W.widen hc hs ?_
    exact W.vret hx hb (hr.trans e1) (fun t ht hW => ⟨⟨none, ρ', h', ad', rfl, hq, hokr, r1, r2, r3, by rw [ht]; exact r4, r5⟩, r6.F ht⟩) r6.2.2 e2
  · refine W.widen hc hs ?_
    exact W.iret hx hb (hr.trans e1) (fun t ht hW => ⟨⟨some (am_I v), ρ', h', ad', rfl, hq, hokr, r1, r2, r3, by rw [ht]; exact r4, r5⟩, r6.F ht⟩) r6.2.2 e2
  · refine W.widen hc hs ?_
    refine W.zret hx hb (hr.trans e1) ?_ (fun t ht hW => ⟨⟨some (am_I v), ρ', h', ad', rfl, hq, hokr, r1, r2, r3, by rw [ht]; exact r4, r5⟩, r6.F ht⟩) r6.2.2 e2
    rcases hv with rfl | rfl <;> rfl
  · refine W.widen hc hs ?_
    exact W.lret hx hb (hr.trans e1) (fun t ht hW => ⟨⟨some (am_L v), ρ', h', ad', rfl, hq, hokr, r1, r2, r3, by rw [ht]; exact r4, r5⟩, r6.F ht⟩) r6.2.2 e2
theorem am_CT_mono {M : am_M} {mc ms : Nat} {as : List am_V} {ρ h : am_H} {Q Q' : am_Q} (hc : am_CT M mc ms as ρ h Q) (hq : ∀ r ρ' h', Q r ρ' h' → Q' r ρ' h') : am_CT M mc ms as ρ h Q' := by
  intro l D cI cS ad sz hrng hoks
  have hM := hc l D cI cS ad sz hrng hoks
  intro p e ha hcc hk s m args below h1 h2 h3 h4
  obtain ⟨k, o, a1, a2, a3, ⟨⟨r, ρ', h', ad', b1, b2, b3⟩, b4⟩, b5⟩ := hM p e ha hcc hk s m args below h1 h2 h3 h4
  exact ⟨k, o, a1, a2, a3, ⟨⟨r, ρ', h', ad', b1, hq _ _ _ b2, b3⟩, b4⟩, b5⟩
section AMR
variable {M M' : am_M} {bc bs mc ms pc pc' tgt idx n : Nat} {ls ls' : List (Option am_V)} {st rest : List am_V} {ρ h : am_H} {Q Q' : am_Q}
/-- behind a call -/
theorem am_back {p : Program} {l : Launch} {e : Env} {R : Room} {s : State} {m : MethodId} {args : Array Value} {below : List Frame} {meth : Method} {c : Code} {Z : State → Prop} {D : va_G} {cI cS : ClassId} {A : Nat → Prop} {n0 : Int} {ad0 ad : Int → Nat} {H : Heap} {locs : List Loc} {cells slots : Nat} {lc : Array Slot} {stc : List Value}
    (Cx : am_Cx M Q p l e R s m args below meth c Z D cI cS A n0 ad0) (rl : am_Rl D cI cS A s n0 ad0 ad ρ h H locs) (os : ∀ v ∈ rest, am_okV (ρ 0 0) v) (ol : ∀ v, some v ∈ ls → am_okV (ρ 0 0) v) (hl : lv_has lc M.2.2.1 (am_lv ad 0 ls)) (hcs : cells + (mc + bc) ≤ R.cells) (hss : slots + (ms + bs) ≤ R.slots)
    (hr : va_Run p l e R s m args below meth c H locs cells slots mc ms (F0 m pc lc stc) (rest.map (am_c ad)) (fun st oc t => (∃ (r : Option am_V) (ρ' h' : am_H) (ad' : Int → Nat), oc = .returned (r.map (am_c ad')) ∧ Q' r ρ' h' ∧ (∀ v, r = some v → am_okV (ρ' 0 0) v) ∧ am_rng ρ' h' ∧ ρ 0 0 ≤ ρ' 0 0 ∧ (∀ x, x < ρ 0 0 → ad' x = ad x) ∧ va_P D vwCl (am_ws cI cS ad' ρ' h') t.heap ∧ va_D (va_A (am_ws cI cS ad ρ h) H.size) (am_ws cI cS ad' ρ' h')) ∧ va_F (va_A (am_ws cI cS ad ρ h) H.size) st t) (va_A (am_ws cI cS ad ρ h) H.size))
    (kk : ∀ r ρ' h', Q' r ρ' h' → am_rng ρ' h' → ρ 0 0 ≤ ρ' 0 0 → am_WP M bc bs (pc + 3) ls (r.toList ++ rest) ρ' h' Q) : W p l e R s m args below meth c H locs cells slots Z (F0 m pc lc stc) := by
  have hsub := am_A_sub rl.2.2.2.2.1 rl.2.2.2.2.2 Cx.1.2.2.2.2.1
  intro T hT X
  obtain ⟨v, st₀, t, T', L, h0, X', hL, e1, e2, ⟨⟨r, ρ', h', ad', hv, hq, hok, hrng, hle, hag, hP', hD'⟩, hF⟩, st⟩ := hr T hT X
  have hv' : v = r.map (am_c ad') := by cases hv; rfl
  subst hv'
  obtain ⟨hz, hk⟩ := hF
  rw [h0] at hz hk
  have hS' : va_S A s.heap T'.heap (locs ++ L) := ⟨Nat.le_trans rl.2.2.2.2.2.1 (by rw [e1]; exact hz), fun q h1 h2 => by rw [e1, hk q (Nat.lt_of_lt_of_le h1 rl.2.2.2.2.2.1) (fun z => h2 (hsub q z))]; exact rl.2.2.2.2.2.2.1 q h1 h2, fun q hq => by
    rcases List.mem_append.mp hq with z | z
    · exact rl.2.2.2.2.2.2.2 q z
    · exact hsub _ (hL q z)⟩
  have os' : ∀ v ∈ r.toList ++ rest, am_okV (ρ' 0 0) v := fun v hv => by
    rcases List.mem_append.mp hv with z | z
    · exact hok v (Option.mem_toList.mp z)
    · exact am_okV_mono hle (os v z)
  obtain ⟨t2, a1, b1⟩ := kk r ρ' h' hq hrng hle p l e R s m args below meth c Z D cI cS A n0 ad0 Cx ad' T'.heap (locs ++ L) (cells + mc) (slots + ms) lc ⟨hrng, Int.le_trans rl.2.1 hle, fun x hx => (hag x (Int.lt_of_lt_of_le hx rl.2.1)).trans (rl.2.2.1 x hx), by rw [e1]; exact hP', hD'.weaken (fun k q _ z => hsub _ z), hS'⟩ os' (fun v hv => am_okV_mono hle (ol v hv)) (by rw [am_lv_ext (ρ 0 0) hag ls 0 ol]; exact hl) (by omega) (by omega) T' rfl X'
  refine ⟨t2, st t2 ?_, b1⟩
  rw [List.map_append, am_st_ext hag os] at a1
  have e3 : (r.map (am_c ad')).toList = r.toList.map (am_c ad') := by cases r <;> rfl
  rw [e3]
  exact a1
theorem am_room {ad : Int → Nat} (h : rest.length ≤ 4) : ((rest.map (am_c ad)).map fun v => v.category).sum ≤ 8 := by
  have hc : ∀ v : am_V, (am_c ad v).category ≤ 2 := fun v => by
    rcases v with x | x | x
    · exact Nat.le_of_ble_eq_true rfl
    · exact Nat.le_of_ble_eq_true rfl
    · exact Nat.le_of_ble_eq_true rfl
  have key : ∀ l : List am_V, ((l.map (am_c ad)).map fun v => v.category).sum ≤ 2 * l.length := by
    intro l
    induction l with
    | nil => simp
    | cons a t ih => have := hc a; simp only [List.map_cons, List.sum_cons, List.length_cons]; omega
  have := key rest
  omega
theorem am_callV {as : List am_V} {b : Int} {ci N : Nat} {C : String} {T : u_T} (hd : decode M.2.1 pc = .ok (.invokevirtual idx, 3)) (hp : pc + 3 = pc') (hok : am_ok M' n) (lk : am_T (.methodLink M.1.cls idx M'.1)) (wi : am_T (.instanceMethod M'.1)) (ws : am_T (.selects C M'.1 M'.1)) (hc : vwCl[ci]? = some (C, T, N)) (hlev : M'.2.2.2.2.1 + 1 ≤ M.2.2.2.2.1) (hb : am_in ρ b ci) (hn : as.length = n) (hrest : rest.length ≤ 4) (hst : st = as.reverse ++ am_R b :: rest)
    (ct : am_CT M' mc ms (am_R b :: as) ρ h Q') (kk : ∀ r ρ' h', Q' r ρ' h' → am_rng ρ' h' → ρ 0 0 ≤ ρ' 0 0 → am_WP M bc bs pc' ls (r.toList ++ rest) ρ' h' Q) : am_WP M (mc + bc) (ms + bs) pc ls st ρ h Q := by
  subst hp
  subst hst
  intro p l e R s m args below meth c Z D cI cS A n0 ad0 Cx ad H locs cells slots lc rl os ol hl hcs hss
  obtain ⟨w1, w2, w3, w4, w5, w6⟩ := id hok
  have hR : R.frames = M.2.2.2.2.1 := Cx.1.2.2.2.2.2.1
  have hL : R.locals = 36 * M.2.2.2.2.1 := Cx.1.2.2.2.2.2.2.1
  have hoka : ∀ v ∈ am_R b :: as, am_okV (ρ 0 0) v := fun v hv => os v (by
    rcases List.mem_cons.mp hv with rfl | z
    · exact List.mem_append_right _ List.mem_cons_self
    · exact List.mem_append_left _ (List.mem_reverse.mpr z))
  have he := am_ws_get (cI := cI) (cS := cS) (ad := ad) (h := h) hb.1 hb.2.1
  rw [am_E_obj hb.2.2 (am_cls hc).2.2.2.2] at he
  have hM := ct l D cI cS ad H.size rl.1 hoka
  have cb := callB_of (R := R) (s := s) (args := args) (own := M.1.cls) (index := idx) (y := M'.1) (bytes := M'.2.1) (maxL := M'.2.2.1) (ret := M'.2.2.2.1) (ws := am_W M') (ws' := am_G) (rm := { frames := M'.2.2.2.2.1, cells := mc, slots := ms, locals := 36 * M'.2.2.2.2.1 }) (mc := mc) (ms := ms) n (am_hts Cx.1.2.1) (am_W_good M' hok) rfl rfl rfl (Cx.1.2.1 _ w2) (Cx.1.2.1 _ lk) ⟨w3.1, w3.2, w4⟩ ⟨by rw [hR]; exact hlev, by rw [hL]; show 8 + (M'.2.2.1 + 11) + 36 * M'.2.2.2.2.1 ≤ _; omega⟩
  have hr := va_runV (As := as.map (am_c ad)) (rest := rest.map (am_c ad)) (b := ad b) (g := F0 m pc lc ((as.reverse ++ am_R b :: rest).map (am_c ad))) (e := e) (below := below) (meth := meth) (locs := locs) (cells := cells) (slots := slots) (Ts := am_G) ⟨Cx.1.1.1, Cx.1.1.2.1, Cx.1.1.2.2.1, Cx.1.1.2.2.2, am_hts Cx.1.2.1⟩ hM ⟨cb, Cx.1.2.1 _ wi, Cx.1.2.1 _ ws⟩
    ⟨am_blind, va_recv Cx.1.2.2.2.1 rl.2.2.2.1 hc he, fun U hU hW => ⟨rfl, by rw [hU], by rw [hU]; exact rl.2.2.2.1, va_K.moved hW.alike Cx.1.2.2.2.1, rl.2.2.2.2.1.weaken (fun _ _ _ _ => trivial), am_X.warm hW Cx.1.2.2.2.2.2.2.2.2.2⟩⟩ rfl (by simpa using hn) hl.1 (by simp [List.map_reverse, am_c_R]) (lv_room (am_room hrest)) hd ⟨by omega, by omega⟩
  exact am_back Cx rl (fun v hv => os v (List.mem_append_right _ (List.mem_cons_of_mem _ hv))) ol hl hcs hss hr kk
theorem am_callS {as : List am_V} (hd : decode M.2.1 pc = .ok (.invokestatic idx, 3)) (hp : pc + 3 = pc') (hok : am_ok M' n) (lk : am_T (.methodLink M.1.cls idx M'.1)) (wi : am_T (.static M'.1)) (hlev : M'.2.2.2.2.1 + 1 ≤ M.2.2.2.2.1) (hn : as.length = n) (hrest : rest.length ≤ 4) (hst : st = as.reverse ++ rest)
    (ct : am_CT M' mc ms as ρ h Q') (kk : ∀ r ρ' h', Q' r ρ' h' → am_rng ρ' h' → ρ 0 0 ≤ ρ' 0 0 → am_WP M bc bs pc' ls (r.toList ++ rest) ρ' h' Q) : am_WP M (mc + bc) (ms + bs) pc ls st ρ h Q := by
  subst hp
  subst hst
  intro p l e R s m args below meth c Z D cI cS A n0 ad0 Cx ad H locs cells slots lc rl os ol hl hcs hss
  obtain ⟨w1, w2, w3, w4, w5, w6⟩ := id hok
  have hR : R.frames = M.2.2.2.2.1 := Cx.1.2.2.2.2.2.1
  have hL : R.locals = 36 * M.2.2.2.2.1 := Cx.1.2.2.2.2.2.2.1
  have hoka : ∀ v ∈ as, am_okV (ρ 0 0) v := fun v hv => os v (List.mem_append_left _ (List.mem_reverse.mpr hv))
  have hM := ct l D cI cS ad H.size rl.1 hoka
  have cb := callB_of (R := R) (s := s) (args := args) (own := M.1.cls) (index := idx) (y := M'.1) (bytes := M'.2.1) (maxL := M'.2.2.1) (ret := M'.2.2.2.1) (ws := am_W M') (ws' := am_G) (rm := { frames := M'.2.2.2.2.1, cells := mc, slots := ms, locals := 36 * M'.2.2.2.2.1 }) (mc := mc) (ms := ms) n (am_hts Cx.1.2.1) (am_W_good M' hok) rfl rfl rfl (Cx.1.2.1 _ w2) (Cx.1.2.1 _ lk) ⟨w3.1, w3.2, w4⟩ ⟨by rw [hR]; exact hlev, by rw [hL]; show 8 + (M'.2.2.1 + 11) + 36 * M'.2.2.2.2.1 ≤ _; omega⟩
  have hr := va_runS (As := as.map (am_c ad)) (rest := rest.map (am_c ad)) (g := F0 m pc lc ((as.reverse ++ rest).map (am_c ad))) (e := e) (below := below) (meth := meth) (locs := locs) (cells := cells) (slots := slots) (Ts := am_G) ⟨Cx.1.1.1, Cx.1.1.2.1, Cx.1.1.2.2.1, Cx.1.1.2.2.2, am_hts Cx.1.2.1⟩ hM ⟨cb, Cx.1.2.1 _ wi⟩
    ⟨am_blind, fun U hU hW => ⟨rfl, by rw [hU], by rw [hU]; exact rl.2.2.2.1, va_K.moved hW.alike Cx.1.2.2.2.1, rl.2.2.2.2.1.weaken (fun _ _ _ _ => trivial), am_X.warm hW Cx.1.2.2.2.2.2.2.2.2.2⟩⟩ rfl (by simpa using hn) hl.1 (by simp [List.map_reverse]) (lv_room (am_room hrest)) hd ⟨by omega, by omega⟩
  exact am_back Cx rl (fun v hv => os v (List.mem_append_right _ hv)) ol hl hcs hss hr kk
theorem am_callI {b : Int} (hd : decode M.2.1 pc = .ok (.invokespecial idx, 3)) (hp : pc + 3 = pc') (hok : am_ok M' 0) (hret : M'.2.2.2.1 = none) (lk : am_T (.methodLink M.1.cls idx M'.1)) (wi : am_T (.instanceMethod M'.1)) (hy : M'.1.name = "<init>") (hlev : M'.2.2.2.2.1 + 1 ≤ M.2.2.2.2.1) (hrest : rest.length ≤ 4)
    (ct : am_CT M' mc ms [am_R b] ρ h Q') (kk : ∀ r ρ' h', Q' r ρ' h' → am_rng ρ' h' → ρ 0 0 ≤ ρ' 0 0 → am_WP M bc bs pc' ls (r.toList ++ rest) ρ' h' Q) : am_WP M (mc + bc) (ms + bs) pc ls (am_R b :: rest) ρ h Q := by
  subst hp
  intro p l e R s m args below meth c Z D cI cS A n0 ad0 Cx ad H locs cells slots lc rl os ol hl hcs hss
  obtain ⟨w1, w2, w3, w4, w5, w6⟩ := id hok
  have hR : R.frames = M.2.2.2.2.1 := Cx.1.2.2.2.2.2.1
  have hL : R.locals = 36 * M.2.2.2.2.1 := Cx.1.2.2.2.2.2.2.1
  have hoka : ∀ v ∈ [am_R b], am_okV (ρ 0 0) v := fun v hv => os v (by rw [List.mem_singleton.mp hv]; exact List.mem_cons_self)
  have hM := ct l D cI cS ad H.size rl.1 hoka
  have cb := callB_of (R := R) (s := s) (args := args) (own := M.1.cls) (index := idx) (y := M'.1) (bytes := M'.2.1) (maxL := M'.2.2.1) (ret := none) (ws := am_W M') (ws' := am_G) (rm := { frames := M'.2.2.2.2.1, cells := mc, slots := ms, locals := 36 * M'.2.2.2.2.1 }) (mc := mc) (ms := ms) 0 (am_hts Cx.1.2.1) (am_W_good M' hok) (by unfold am_W; rw [hret]) rfl rfl (Cx.1.2.1 _ w2) (Cx.1.2.1 _ lk) ⟨w3.1, w3.2, w4⟩ ⟨by rw [hR]; exact hlev, by rw [hL]; show 8 + (M'.2.2.1 + 11) + 36 * M'.2.2.2.2.1 ≤ _; omega⟩
  have hr := va_runI (As := []) (rest := rest.map (am_c ad)) (b := ad b) (g := F0 m pc lc ((am_R b :: rest).map (am_c ad))) (e := e) (below := below) (meth := meth) (locs := locs) (cells := cells) (slots := slots) (Ts := am_G) ⟨Cx.1.1.1, Cx.1.1.2.1, Cx.1.1.2.2.1, Cx.1.1.2.2.2, am_hts Cx.1.2.1⟩ hM ⟨cb, hy, Cx.1.2.1 _ wi⟩
    ⟨am_blind, fun U hU hW => ⟨rfl, by rw [hU], by rw [hU]; exact rl.2.2.2.1, va_K.moved hW.alike Cx.1.2.2.2.1, rl.2.2.2.2.1.weaken (fun _ _ _ _ => trivial), am_X.warm hW Cx.1.2.2.2.2.2.2.2.2.2⟩⟩ rfl rfl hl.1 (by simp [am_c_R]) (lv_room (am_room hrest)) hd ⟨by omega, by omega⟩
  exact am_back Cx rl (am_okt os) ol hl hcs hss hr kk
theorem am_callIN {b : Int} {host : String} (hd : decode M.2.1 pc = .ok (.invokespecial idx, 3)) (hp : pc + 3 = pc') (hok : am_ok M' 0) (hret : M'.2.2.2.1 = none) (lk : .methodLinkNest M.1.cls idx M'.1 host ∈ am_nest) (wi : am_T (.instanceMethod M'.1)) (hy : M'.1.name = "<init>") (hlev : M'.2.2.2.2.1 + 1 ≤ M.2.2.2.2.1) (hrest : rest.length ≤ 4)
    (ct : am_CT M' mc ms [am_R b] ρ h Q') (kk : ∀ r ρ' h', Q' r ρ' h' → am_rng ρ' h' → ρ 0 0 ≤ ρ' 0 0 → am_WP M bc bs pc' ls (r.toList ++ rest) ρ' h' Q) : am_WP M (mc + bc) (ms + bs) pc ls (am_R b :: rest) ρ h Q := by
  subst hp
  intro p l e R s m args below meth c Z D cI cS A n0 ad0 Cx ad H locs cells slots lc rl os ol hl hcs hss
  obtain ⟨w1, w2, w3, w4, w5, w6⟩ := id hok
  have hR : R.frames = M.2.2.2.2.1 := Cx.1.2.2.2.2.2.1
  have hL : R.locals = 36 * M.2.2.2.2.1 := Cx.1.2.2.2.2.2.2.1
  have hoka : ∀ v ∈ [am_R b], am_okV (ρ 0 0) v := fun v hv => os v (by rw [List.mem_singleton.mp hv]; exact List.mem_cons_self)
  have hM := ct l D cI cS ad H.size rl.1 hoka
  have cb := va_cnB (R := R) (s := s) (args := args) (own := M.1.cls) (host := host) (index := idx) (y := M'.1) (bytes := M'.2.1) (maxL := M'.2.2.1) (ret := none) (Ts := am_G) (ws := am_W M') (ws' := am_G) (rm := { frames := M'.2.2.2.2.1, cells := mc, slots := ms, locals := 36 * M'.2.2.2.2.1 }) (mc := mc) (ms := ms) 0 (am_hts Cx.1.2.1) (am_W_good M' hok) (by unfold am_W; rw [hret]) rfl rfl (Cx.1.2.2.2.2.2.2.2.2.2.1 _ lk) (Cx.1.2.1 _ w2) ⟨w3.1, w3.2, w4⟩ ⟨by rw [hR]; exact hlev, by rw [hL]; show 8 + (M'.2.2.1 + 11) + 36 * M'.2.2.2.2.1 ≤ _; omega⟩
  have hr := va_runIN (As := []) (rest := rest.map (am_c ad)) (b := ad b) (g := F0 m pc lc ((am_R b :: rest).map (am_c ad))) (e := e) (below := below) (meth := meth) (locs := locs) (cells := cells) (slots := slots) (Ts := am_G) ⟨Cx.1.1.1, Cx.1.1.2.1, Cx.1.1.2.2.1, Cx.1.1.2.2.2, am_hts Cx.1.2.1⟩ hM ⟨cb, hy, Cx.1.2.1 _ wi⟩
    ⟨am_blind, fun U hU hW => ⟨rfl, by rw [hU], by rw [hU]; exact rl.2.2.2.1, va_K.moved hW.alike Cx.1.2.2.2.1, rl.2.2.2.2.1.weaken (fun _ _ _ _ => trivial), am_X.warm hW Cx.1.2.2.2.2.2.2.2.2.2⟩⟩ rfl rfl hl.1 (by simp [am_c_R]) (lv_room (am_room hrest)) hd ⟨by omega, by omega⟩
  exact am_back Cx rl (am_okt os) ol hl hcs hss hr kk
end AMR
end
section
theorem wfl_X4_11 : am_T (.fieldLink RX4 11 "DifferRings$Sheet" "lane" "I") := ⟨List.mem_append_right _ (List.mem_of_getElem? (i := 29) (by decide +kernel)), by decide +kernel⟩
theorem fl_X4_11 : am_fl RX4 11 4 0 := ⟨RX4, TX4, 3, rfl, by decide, wfl_X4_11⟩
theorem wfl_X4_15 : am_T (.fieldLink RX4 15 "DifferRings$Sheet" "size" "I") := ⟨List.mem_append_right _ (List.mem_of_getElem? (i := 30) (by decide +kernel)), by decide +kernel⟩
theorem fl_X4_15 : am_fl RX4 15 4 1 := ⟨RX4, TX4, 3, rfl, by decide, wfl_X4_15⟩
theorem wfl_X4_18 : am_T (.fieldLink RX4 18 "DifferRings$Sheet" "cells" "[I") := ⟨List.mem_append_right _ (List.mem_of_getElem? (i := 31) (by decide +kernel)), by decide +kernel⟩
theorem fl_X4_18 : am_fl RX4 18 4 2 := ⟨RX4, TX4, 3, rfl, by decide, wfl_X4_18⟩
theorem wfl_X7_271 : am_T (.fieldLink RX7 271 "DifferRings$Sheet" "cells" "[I") := ⟨List.mem_append_right _ (List.mem_of_getElem? (i := 32) (by decide +kernel)), by decide +kernel⟩
theorem fl_X7_271 : am_fl RX7 271 4 2 := ⟨RX4, TX4, 3, rfl, by decide, wfl_X7_271⟩
theorem wfl_X3_9 : am_T (.fieldLink RX3 9 "DifferRings$Ring" "base" "I") := ⟨List.mem_append_right _ (List.mem_of_getElem? (i := 47) (by decide +kernel)), by decide +kernel⟩
theorem fl_X3_9 : am_fl RX3 9 3 0 := ⟨RX3, TX3, 5, rfl, by decide, wfl_X3_9⟩
theorem wfl_X0_70 : am_T (.fieldLink RX0 70 "DifferRings$Ring" "base" "I") := ⟨List.mem_append_right _ (List.mem_of_getElem? (i := 48) (by decide +kernel)), by decide +kernel⟩
theorem fl_X0_70 : am_fl RX0 70 3 0 := ⟨RX3, TX3, 5, rfl, by decide, wfl_X0_70⟩
theorem wfl_X6_24 : am_T (.fieldLink RX6 24 "DifferRings$Ring" "base" "I") := ⟨List.mem_append_right _ (List.mem_of_getElem? (i := 49) (by decide +kernel)), by decide +kernel⟩
theorem fl_X6_24 : am_fl RX6 24 3 0 := ⟨RX3, TX3, 5, rfl, by decide, wfl_X6_24⟩
theorem wfl_X7_232 : am_T (.fieldLink RX7 232 "DifferRings$Ring" "base" "I") := ⟨List.mem_append_right _ (List.mem_of_getElem? (i := 50) (by decide +kernel)), by decide +kernel⟩
theorem fl_X7_232 : am_fl RX7 232 3 0 := ⟨RX3, TX3, 5, rfl, by decide, wfl_X7_232⟩
theorem wfl_X3_15 : am_T (.fieldLink RX3 15 "DifferRings$Ring" "size" "I") := ⟨List.mem_append_right _ (List.mem_of_getElem? (i := 51) (by decide +kernel)), by decide +kernel⟩
theorem fl_X3_15 : am_fl RX3 15 3 1 := ⟨RX3, TX3, 5, rfl, by decide, wfl_X3_15⟩
theorem wfl_X7_95 : am_T (.fieldLink RX7 95 "DifferRings$Ring" "size" "I") := ⟨List.mem_append_right _ (List.mem_of_getElem? (i := 52) (by decide +kernel)), by decide +kernel⟩
theorem fl_X7_95 : am_fl RX7 95 3 1 := ⟨RX3, TX3, 5, rfl, by decide, wfl_X7_95⟩
theorem wfl_X0_67 : am_T (.fieldLink RX0 67 "DifferRings$Ring" "size" "I") := ⟨List.mem_append_right _ (List.mem_of_getElem? (i := 53) (by decide +kernel)), by decide +kernel⟩
theorem fl_X0_67 : am_fl RX0 67 3 1 := ⟨RX3, TX3, 5, rfl, by decide, wfl_X0_67⟩
theorem wfl_X6_36 : am_T (.fieldLink RX6 36 "DifferRings$Ring" "size" "I") := ⟨List.mem_append_right _ (List.mem_of_getElem? (i := 54) (by decide +kernel)), by decide +kernel⟩
theorem fl_X6_36 : am_fl RX6 36 3 1 := ⟨RX3, TX3, 5, rfl, by decide, wfl_X6_36⟩
theorem wfl_X3_18 : am_T (.fieldLink RX3 18 "DifferRings$Ring" "kind" "[I") := ⟨List.mem_append_right _ (List.mem_of_getElem? (i := 55) (by decide +kernel)), by decide +kernel⟩
theorem fl_X3_18 : am_fl RX3 18 3 2 := ⟨RX3, TX3, 5, rfl, by decide, wfl_X3_18⟩
theorem wfl_X7_101 : am_T (.fieldLink RX7 101 "DifferRings$Ring" "kind" "[I") := ⟨List.mem_append_right _ (List.mem_of_getElem? (i := 56) (by decide +kernel)), by decide +kernel⟩
theorem fl_X7_101 : am_fl RX7 101 3 2 := ⟨RX3, TX3, 5, rfl, by decide, wfl_X7_101⟩
theorem wfl_X6_39 : am_T (.fieldLink RX6 39 "DifferRings$Ring" "kind" "[I") := ⟨List.mem_append_right _ (List.mem_of_getElem? (i := 57) (by decide +kernel)), by decide +kernel⟩
theorem fl_X6_39 : am_fl RX6 39 3 2 := ⟨RX3, TX3, 5, rfl, by decide, wfl_X6_39⟩
theorem wfl_X3_22 : am_T (.fieldLink RX3 22 "DifferRings$Ring" "number" "[I") := ⟨List.mem_append_right _ (List.mem_of_getElem? (i := 58) (by decide +kernel)), by decide +kernel⟩
theorem fl_X3_22 : am_fl RX3 22 3 3 := ⟨RX3, TX3, 5, rfl, by decide, wfl_X3_22⟩
theorem wfl_X7_105 : am_T (.fieldLink RX7 105 "DifferRings$Ring" "number" "[I") := ⟨List.mem_append_right _ (List.mem_of_getElem? (i := 59) (by decide +kernel)), by decide +kernel⟩
theorem fl_X7_105 : am_fl RX7 105 3 3 := ⟨RX3, TX3, 5, rfl, by decide, wfl_X7_105⟩
theorem wfl_X2_45 : am_T (.fieldLink RX2 45 "DifferRings$Ring" "number" "[I") := ⟨List.mem_append_right _ (List.mem_of_getElem? (i := 60) (by decide +kernel)), by decide +kernel⟩
theorem fl_X2_45 : am_fl RX2 45 3 3 := ⟨RX3, TX3, 5, rfl, by decide, wfl_X2_45⟩
theorem wfl_X1_52 : am_T (.fieldLink RX1 52 "DifferRings$Ring" "number" "[I") := ⟨List.mem_append_right _ (List.mem_of_getElem? (i := 61) (by decide +kernel)), by decide +kernel⟩
theorem fl_X1_52 : am_fl RX1 52 3 3 := ⟨RX3, TX3, 5, rfl, by decide, wfl_X1_52⟩
theorem wfl_X6_43 : am_T (.fieldLink RX6 43 "DifferRings$Ring" "number" "[I") := ⟨List.mem_append_right _ (List.mem_of_getElem? (i := 62) (by decide +kernel)), by decide +kernel⟩
theorem fl_X6_43 : am_fl RX6 43 3 3 := ⟨RX3, TX3, 5, rfl, by decide, wfl_X6_43⟩
theorem wfl_X3_25 : am_T (.fieldLink RX3 25 "DifferRings$Ring" "coming" "[I") := ⟨List.mem_append_right _ (List.mem_of_getElem? (i := 63) (by decide +kernel)), by decide +kernel⟩
theorem fl_X3_25 : am_fl RX3 25 3 4 := ⟨RX3, TX3, 5, rfl, by decide, wfl_X3_25⟩
theorem wfl_X0_12 : am_T (.fieldLink RX0 12 "DifferRings$AllRows" "probe" "LDifferRings$Ring;") := ⟨List.mem_append_right _ (List.mem_of_getElem? (i := 83) (by decide +kernel)), by decide +kernel⟩
theorem fl_X0_12 : am_fl RX0 12 0 0 := ⟨RX0, TX0, 14, rfl, by decide, wfl_X0_12⟩
theorem wfl_X0_18 : am_T (.fieldLink RX0 18 "DifferRings$AllRows" "next" "[I") := ⟨List.mem_append_right _ (List.mem_of_getElem? (i := 84) (by decide +kernel)), by decide +kernel⟩
theorem fl_X0_18 : am_fl RX0 18 0 1 := ⟨RX0, TX0, 14, rfl, by decide, wfl_X0_18⟩
theorem wfl_X0_22 : am_T (.fieldLink RX0 22 "DifferRings$AllRows" "comers" "[I") := ⟨List.mem_append_right _ (List.mem_of_getElem? (i := 85) (by decide +kernel)), by decide +kernel⟩
theorem fl_X0_22 : am_fl RX0 22 0 2 := ⟨RX0, TX0, 14, rfl, by decide, wfl_X0_22⟩
theorem wfl_X0_25 : am_T (.fieldLink RX0 25 "DifferRings$AllRows" "order" "[I") := ⟨List.mem_append_right _ (List.mem_of_getElem? (i := 86) (by decide +kernel)), by decide +kernel⟩
theorem fl_X0_25 : am_fl RX0 25 0 3 := ⟨RX0, TX0, 14, rfl, by decide, wfl_X0_25⟩
theorem wfl_X0_28 : am_T (.fieldLink RX0 28 "DifferRings$AllRows" "root" "[I") := ⟨List.mem_append_right _ (List.mem_of_getElem? (i := 87) (by decide +kernel)), by decide +kernel⟩
theorem fl_X0_28 : am_fl RX0 28 0 4 := ⟨RX0, TX0, 14, rfl, by decide, wfl_X0_28⟩
theorem wfl_X0_31 : am_T (.fieldLink RX0 31 "DifferRings$AllRows" "tail" "[I") := ⟨List.mem_append_right _ (List.mem_of_getElem? (i := 88) (by decide +kernel)), by decide +kernel⟩
theorem fl_X0_31 : am_fl RX0 31 0 5 := ⟨RX0, TX0, 14, rfl, by decide, wfl_X0_31⟩
theorem wfl_X0_34 : am_T (.fieldLink RX0 34 "DifferRings$AllRows" "ordered" "I") := ⟨List.mem_append_right _ (List.mem_of_getElem? (i := 89) (by decide +kernel)), by decide +kernel⟩
theorem fl_X0_34 : am_fl RX0 34 0 6 := ⟨RX0, TX0, 14, rfl, by decide, wfl_X0_34⟩
theorem wfl_X0_38 : am_T (.fieldLink RX0 38 "DifferRings$AllRows" "count" "I") := ⟨List.mem_append_right _ (List.mem_of_getElem? (i := 90) (by decide +kernel)), by decide +kernel⟩
theorem fl_X0_38 : am_fl RX0 38 0 7 := ⟨RX0, TX0, 14, rfl, by decide, wfl_X0_38⟩
theorem wfl_X5_35 : am_T (.fieldLink RX5 35 "DifferRings$AllRows" "count" "I") := ⟨List.mem_append_right _ (List.mem_of_getElem? (i := 91) (by decide +kernel)), by decide +kernel⟩
theorem fl_X5_35 : am_fl RX5 35 0 7 := ⟨RX0, TX0, 14, rfl, by decide, wfl_X5_35⟩
theorem wfl_X7_187 : am_T (.fieldLink RX7 187 "DifferRings$AllRows" "count" "I") := ⟨List.mem_append_right _ (List.mem_of_getElem? (i := 92) (by decide +kernel)), by decide +kernel⟩
theorem fl_X7_187 : am_fl RX7 187 0 7 := ⟨RX0, TX0, 14, rfl, by decide, wfl_X7_187⟩
theorem wfl_X0_41 : am_T (.fieldLink RX0 41 "DifferRings$AllRows" "staying" "I") := ⟨List.mem_append_right _ (List.mem_of_getElem? (i := 93) (by decide +kernel)), by decide +kernel⟩
theorem fl_X0_41 : am_fl RX0 41 0 8 := ⟨RX0, TX0, 14, rfl, by decide, wfl_X0_41⟩
theorem wfl_X7_188 : am_T (.fieldLink RX7 188 "DifferRings$AllRows" "staying" "I") := ⟨List.mem_append_right _ (List.mem_of_getElem? (i := 94) (by decide +kernel)), by decide +kernel⟩
theorem fl_X7_188 : am_fl RX7 188 0 8 := ⟨RX0, TX0, 14, rfl, by decide, wfl_X7_188⟩
theorem wfl_X0_44 : am_T (.fieldLink RX0 44 "DifferRings$AllRows" "barren" "I") := ⟨List.mem_append_right _ (List.mem_of_getElem? (i := 95) (by decide +kernel)), by decide +kernel⟩
theorem fl_X0_44 : am_fl RX0 44 0 9 := ⟨RX0, TX0, 14, rfl, by decide, wfl_X0_44⟩
theorem wfl_X7_191 : am_T (.fieldLink RX7 191 "DifferRings$AllRows" "barren" "I") := ⟨List.mem_append_right _ (List.mem_of_getElem? (i := 96) (by decide +kernel)), by decide +kernel⟩
theorem fl_X7_191 : am_fl RX7 191 0 9 := ⟨RX0, TX0, 14, rfl, by decide, wfl_X7_191⟩
theorem wfl_X0_47 : am_T (.fieldLink RX0 47 "DifferRings$AllRows" "goingOut" "I") := ⟨List.mem_append_right _ (List.mem_of_getElem? (i := 97) (by decide +kernel)), by decide +kernel⟩
theorem fl_X0_47 : am_fl RX0 47 0 10 := ⟨RX0, TX0, 14, rfl, by decide, wfl_X0_47⟩
theorem wfl_X7_194 : am_T (.fieldLink RX7 194 "DifferRings$AllRows" "goingOut" "I") := ⟨List.mem_append_right _ (List.mem_of_getElem? (i := 98) (by decide +kernel)), by decide +kernel⟩
theorem fl_X7_194 : am_fl RX7 194 0 10 := ⟨RX0, TX0, 14, rfl, by decide, wfl_X7_194⟩
theorem wfl_X0_50 : am_T (.fieldLink RX0 50 "DifferRings$AllRows" "rounds" "I") := ⟨List.mem_append_right _ (List.mem_of_getElem? (i := 99) (by decide +kernel)), by decide +kernel⟩
theorem fl_X0_50 : am_fl RX0 50 0 11 := ⟨RX0, TX0, 14, rfl, by decide, wfl_X0_50⟩
theorem wfl_X7_197 : am_T (.fieldLink RX7 197 "DifferRings$AllRows" "rounds" "I") := ⟨List.mem_append_right _ (List.mem_of_getElem? (i := 100) (by decide +kernel)), by decide +kernel⟩
theorem fl_X7_197 : am_fl RX7 197 0 11 := ⟨RX0, TX0, 14, rfl, by decide, wfl_X7_197⟩
theorem wfl_X0_53 : am_T (.fieldLink RX0 53 "DifferRings$AllRows" "longestTail" "I") := ⟨List.mem_append_right _ (List.mem_of_getElem? (i := 101) (by decide +kernel)), by decide +kernel⟩
theorem fl_X0_53 : am_fl RX0 53 0 12 := ⟨RX0, TX0, 14, rfl, by decide, wfl_X0_53⟩
theorem wfl_X7_200 : am_T (.fieldLink RX7 200 "DifferRings$AllRows" "longestTail" "I") := ⟨List.mem_append_right _ (List.mem_of_getElem? (i := 102) (by decide +kernel)), by decide +kernel⟩
theorem fl_X7_200 : am_fl RX7 200 0 12 := ⟨RX0, TX0, 14, rfl, by decide, wfl_X7_200⟩
theorem wfl_X0_56 : am_T (.fieldLink RX0 56 "DifferRings$AllRows" "firstOfLongest" "I") := ⟨List.mem_append_right _ (List.mem_of_getElem? (i := 103) (by decide +kernel)), by decide +kernel⟩
theorem fl_X0_56 : am_fl RX0 56 0 13 := ⟨RX0, TX0, 14, rfl, by decide, wfl_X0_56⟩
theorem wfl_X7_203 : am_T (.fieldLink RX7 203 "DifferRings$AllRows" "firstOfLongest" "I") := ⟨List.mem_append_right _ (List.mem_of_getElem? (i := 104) (by decide +kernel)), by decide +kernel⟩
theorem fl_X7_203 : am_fl RX7 203 0 13 := ⟨RX0, TX0, 14, rfl, by decide, wfl_X7_203⟩
theorem wfl_X5_9 : am_T (.fieldLink RX5 9 "DifferRings$Spread" "row" "[I") := ⟨List.mem_append_right _ (List.mem_of_getElem? (i := 140) (by decide +kernel)), by decide +kernel⟩
theorem fl_X5_9 : am_fl RX5 9 5 0 := ⟨RX5, TX5, 5, rfl, by decide, wfl_X5_9⟩
theorem wfl_X5_15 : am_T (.fieldLink RX5 15 "DifferRings$Spread" "weight" "[I") := ⟨List.mem_append_right _ (List.mem_of_getElem? (i := 141) (by decide +kernel)), by decide +kernel⟩
theorem fl_X5_15 : am_fl RX5 15 5 1 := ⟨RX5, TX5, 5, rfl, by decide, wfl_X5_15⟩
theorem wfl_X5_18 : am_T (.fieldLink RX5 18 "DifferRings$Spread" "place" "[I") := ⟨List.mem_append_right _ (List.mem_of_getElem? (i := 142) (by decide +kernel)), by decide +kernel⟩
theorem fl_X5_18 : am_fl RX5 18 5 2 := ⟨RX5, TX5, 5, rfl, by decide, wfl_X5_18⟩
theorem wfl_X5_21 : am_T (.fieldLink RX5 21 "DifferRings$Spread" "unlike" "I") := ⟨List.mem_append_right _ (List.mem_of_getElem? (i := 143) (by decide +kernel)), by decide +kernel⟩
theorem fl_X5_21 : am_fl RX5 21 5 3 := ⟨RX5, TX5, 5, rfl, by decide, wfl_X5_21⟩
theorem wfl_X5_25 : am_T (.fieldLink RX5 25 "DifferRings$Spread" "age" "I") := ⟨List.mem_append_right _ (List.mem_of_getElem? (i := 144) (by decide +kernel)), by decide +kernel⟩
theorem fl_X5_25 : am_fl RX5 25 5 4 := ⟨RX5, TX5, 5, rfl, by decide, wfl_X5_25⟩
theorem wfl_X2_9 : am_T (.fieldLink RX2 9 "DifferRings$Readings" "time" "[I") := ⟨List.mem_append_right _ (List.mem_of_getElem? (i := 162) (by decide +kernel)), by decide +kernel⟩
theorem fl_X2_9 : am_fl RX2 9 2 0 := ⟨RX2, TX2, 4, rfl, by decide, wfl_X2_9⟩
theorem wfl_X2_15 : am_T (.fieldLink RX2 15 "DifferRings$Readings" "place" "[I") := ⟨List.mem_append_right _ (List.mem_of_getElem? (i := 163) (by decide +kernel)), by decide +kernel⟩
theorem fl_X2_15 : am_fl RX2 15 2 1 := ⟨RX2, TX2, 4, rfl, by decide, wfl_X2_15⟩
theorem wfl_X2_18 : am_T (.fieldLink RX2 18 "DifferRings$Readings" "number" "[I") := ⟨List.mem_append_right _ (List.mem_of_getElem? (i := 164) (by decide +kernel)), by decide +kernel⟩
theorem fl_X2_18 : am_fl RX2 18 2 2 := ⟨RX2, TX2, 4, rfl, by decide, wfl_X2_18⟩
theorem wfl_X2_21 : am_T (.fieldLink RX2 21 "DifferRings$Readings" "count" "I") := ⟨List.mem_append_right _ (List.mem_of_getElem? (i := 165) (by decide +kernel)), by decide +kernel⟩
theorem fl_X2_21 : am_fl RX2 21 2 3 := ⟨RX2, TX2, 4, rfl, by decide, wfl_X2_21⟩
theorem wfl_X7_88 : am_T (.fieldLink RX7 88 "DifferRings$Readings" "count" "I") := ⟨List.mem_append_right _ (List.mem_of_getElem? (i := 166) (by decide +kernel)), by decide +kernel⟩
theorem fl_X7_88 : am_fl RX7 88 2 3 := ⟨RX2, TX2, 4, rfl, by decide, wfl_X7_88⟩
theorem wfl_X1_9 : am_T (.fieldLink RX1 9 "DifferRings$Day" "firstWrong" "I") := ⟨List.mem_append_right _ (List.mem_of_getElem? (i := 182) (by decide +kernel)), by decide +kernel⟩
theorem fl_X1_9 : am_fl RX1 9 1 0 := ⟨RX1, TX1, 3, rfl, by decide, wfl_X1_9⟩
theorem wfl_X7_160 : am_T (.fieldLink RX7 160 "DifferRings$Day" "firstWrong" "I") := ⟨List.mem_append_right _ (List.mem_of_getElem? (i := 183) (by decide +kernel)), by decide +kernel⟩
theorem fl_X7_160 : am_fl RX7 160 1 0 := ⟨RX1, TX1, 3, rfl, by decide, wfl_X7_160⟩
theorem wfl_X1_15 : am_T (.fieldLink RX1 15 "DifferRings$Day" "stepsIn" "I") := ⟨List.mem_append_right _ (List.mem_of_getElem? (i := 184) (by decide +kernel)), by decide +kernel⟩
theorem fl_X1_15 : am_fl RX1 15 1 1 := ⟨RX1, TX1, 3, rfl, by decide, wfl_X1_15⟩
theorem wfl_X7_166 : am_T (.fieldLink RX7 166 "DifferRings$Day" "stepsIn" "I") := ⟨List.mem_append_right _ (List.mem_of_getElem? (i := 185) (by decide +kernel)), by decide +kernel⟩
theorem fl_X7_166 : am_fl RX7 166 1 1 := ⟨RX1, TX1, 3, rfl, by decide, wfl_X7_166⟩
theorem wfl_X1_18 : am_T (.fieldLink RX1 18 "DifferRings$Day" "outs" "I") := ⟨List.mem_append_right _ (List.mem_of_getElem? (i := 186) (by decide +kernel)), by decide +kernel⟩
theorem fl_X1_18 : am_fl RX1 18 1 2 := ⟨RX1, TX1, 3, rfl, by decide, wfl_X1_18⟩
theorem wfl_X7_169 : am_T (.fieldLink RX7 169 "DifferRings$Day" "outs" "I") := ⟨List.mem_append_right _ (List.mem_of_getElem? (i := 187) (by decide +kernel)), by decide +kernel⟩
theorem fl_X7_169 : am_fl RX7 169 1 2 := ⟨RX1, TX1, 3, rfl, by decide, wfl_X7_169⟩
theorem wfl_X7_13 : am_T (.fieldLink RX7 13 "DifferRings" "sheets" "[LDifferRings$Sheet;") := ⟨List.mem_append_right _ (List.mem_of_getElem? (i := 195) (by decide +kernel)), by decide +kernel⟩
theorem fl_X7_13 : am_fl RX7 13 6 0 := ⟨RX7, TX7, 10, rfl, by decide, wfl_X7_13⟩
theorem wfl_X7_21 : am_T (.fieldLink RX7 21 "DifferRings" "live" "LDifferRings$Ring;") := ⟨List.mem_append_right _ (List.mem_of_getElem? (i := 196) (by decide +kernel)), by decide +kernel⟩
theorem fl_X7_21 : am_fl RX7 21 6 1 := ⟨RX7, TX7, 10, rfl, by decide, wfl_X7_21⟩
theorem wfl_X7_25 : am_T (.fieldLink RX7 25 "DifferRings" "trial" "LDifferRings$Ring;") := ⟨List.mem_append_right _ (List.mem_of_getElem? (i := 197) (by decide +kernel)), by decide +kernel⟩
theorem fl_X7_25 : am_fl RX7 25 6 2 := ⟨RX7, TX7, 10, rfl, by decide, wfl_X7_25⟩
theorem wfl_X7_31 : am_T (.fieldLink RX7 31 "DifferRings" "all" "LDifferRings$AllRows;") := ⟨List.mem_append_right _ (List.mem_of_getElem? (i := 198) (by decide +kernel)), by decide +kernel⟩
theorem fl_X7_31 : am_fl RX7 31 6 3 := ⟨RX7, TX7, 10, rfl, by decide, wfl_X7_31⟩
theorem wfl_X7_38 : am_T (.fieldLink RX7 38 "DifferRings" "spread" "LDifferRings$Spread;") := ⟨List.mem_append_right _ (List.mem_of_getElem? (i := 199) (by decide +kernel)), by decide +kernel⟩
theorem fl_X7_38 : am_fl RX7 38 6 4 := ⟨RX7, TX7, 10, rfl, by decide, wfl_X7_38⟩
theorem wfl_X7_45 : am_T (.fieldLink RX7 45 "DifferRings" "readings" "LDifferRings$Readings;") := ⟨List.mem_append_right _ (List.mem_of_getElem? (i := 200) (by decide +kernel)), by decide +kernel⟩
theorem fl_X7_45 : am_fl RX7 45 6 5 := ⟨RX7, TX7, 10, rfl, by decide, wfl_X7_45⟩
theorem wfl_X7_52 : am_T (.fieldLink RX7 52 "DifferRings" "played" "LDifferRings$Day;") := ⟨List.mem_append_right _ (List.mem_of_getElem? (i := 201) (by decide +kernel)), by decide +kernel⟩
theorem fl_X7_52 : am_fl RX7 52 6 6 := ⟨RX7, TX7, 10, rfl, by decide, wfl_X7_52⟩
theorem wfl_X7_85 : am_T (.fieldLink RX7 85 "DifferRings" "done" "I") := ⟨List.mem_append_right _ (List.mem_of_getElem? (i := 202) (by decide +kernel)), by decide +kernel⟩
theorem fl_X7_85 : am_fl RX7 85 6 7 := ⟨RX7, TX7, 10, rfl, by decide, wfl_X7_85⟩
theorem wfl_X7_292 : am_T (.fieldLink RX7 292 "DifferRings" "traced" "I") := ⟨List.mem_append_right _ (List.mem_of_getElem? (i := 203) (by decide +kernel)), by decide +kernel⟩
theorem fl_X7_292 : am_fl RX7 292 6 8 := ⟨RX7, TX7, 10, rfl, by decide, wfl_X7_292⟩
theorem wfl_X7_56 : am_T (.fieldLink RX7 56 "DifferRings" "faulted" "I") := ⟨List.mem_append_right _ (List.mem_of_getElem? (i := 204) (by decide +kernel)), by decide +kernel⟩
theorem fl_X7_56 : am_fl RX7 56 6 9 := ⟨RX7, TX7, 10, rfl, by decide, wfl_X7_56⟩
theorem wfl_X8_69 : am_T (.fieldLink RX8 69 "DifferRingsModel" "fault" "I") := ⟨List.mem_append_right _ (List.mem_of_getElem? (i := 679) (by decide +kernel)), by decide +kernel⟩
theorem fl_X8_69 : am_fl RX8 69 7 0 := ⟨RX8, TX8, 32, rfl, by decide, wfl_X8_69⟩
theorem wfl_X8_77 : am_T (.fieldLink RX8 77 "DifferRingsModel" "places" "I") := ⟨List.mem_append_right _ (List.mem_of_getElem? (i := 680) (by decide +kernel)), by decide +kernel⟩
theorem fl_X8_77 : am_fl RX8 77 7 1 := ⟨RX8, TX8, 32, rfl, by decide, wfl_X8_77⟩
theorem wfl_X8_127 : am_T (.fieldLink RX8 127 "DifferRingsModel" "base" "I") := ⟨List.mem_append_right _ (List.mem_of_getElem? (i := 681) (by decide +kernel)), by decide +kernel⟩
theorem fl_X8_127 : am_fl RX8 127 7 2 := ⟨RX8, TX8, 32, rfl, by decide, wfl_X8_127⟩
theorem wfl_X8_130 : am_T (.fieldLink RX8 130 "DifferRingsModel" "stepsDone" "I") := ⟨List.mem_append_right _ (List.mem_of_getElem? (i := 682) (by decide +kernel)), by decide +kernel⟩
theorem fl_X8_130 : am_fl RX8 130 7 3 := ⟨RX8, TX8, 32, rfl, by decide, wfl_X8_130⟩
theorem wfl_X8_7 : am_T (.fieldLink RX8 7 "DifferRingsModel" "kindOf" "[I") := ⟨List.mem_append_right _ (List.mem_of_getElem? (i := 683) (by decide +kernel)), by decide +kernel⟩
theorem fl_X8_7 : am_fl RX8 7 7 4 := ⟨RX8, TX8, 32, rfl, by decide, wfl_X8_7⟩
theorem wfl_X8_13 : am_T (.fieldLink RX8 13 "DifferRingsModel" "numberOf" "[I") := ⟨List.mem_append_right _ (List.mem_of_getElem? (i := 684) (by decide +kernel)), by decide +kernel⟩
theorem fl_X8_13 : am_fl RX8 13 7 5 := ⟨RX8, TX8, 32, rfl, by decide, wfl_X8_13⟩
theorem wfl_X8_84 : am_T (.fieldLink RX8 84 "DifferRingsModel" "readAt" "I") := ⟨List.mem_append_right _ (List.mem_of_getElem? (i := 685) (by decide +kernel)), by decide +kernel⟩
theorem fl_X8_84 : am_fl RX8 84 7 6 := ⟨RX8, TX8, 32, rfl, by decide, wfl_X8_84⟩
theorem wfl_X8_87 : am_T (.fieldLink RX8 87 "DifferRingsModel" "readPlaces" "I") := ⟨List.mem_append_right _ (List.mem_of_getElem? (i := 686) (by decide +kernel)), by decide +kernel⟩
theorem fl_X8_87 : am_fl RX8 87 7 7 := ⟨RX8, TX8, 32, rfl, by decide, wfl_X8_87⟩
theorem wfl_X8_94 : am_T (.fieldLink RX8 94 "DifferRingsModel" "readBase" "I") := ⟨List.mem_append_right _ (List.mem_of_getElem? (i := 687) (by decide +kernel)), by decide +kernel⟩
theorem fl_X8_94 : am_fl RX8 94 7 8 := ⟨RX8, TX8, 32, rfl, by decide, wfl_X8_94⟩
theorem wfl_X8_16 : am_T (.fieldLink RX8 16 "DifferRingsModel" "readKind" "[I") := ⟨List.mem_append_right _ (List.mem_of_getElem? (i := 688) (by decide +kernel)), by decide +kernel⟩
theorem fl_X8_16 : am_fl RX8 16 7 9 := ⟨RX8, TX8, 32, rfl, by decide, wfl_X8_16⟩
theorem wfl_X8_19 : am_T (.fieldLink RX8 19 "DifferRingsModel" "readNumber" "[I") := ⟨List.mem_append_right _ (List.mem_of_getElem? (i := 689) (by decide +kernel)), by decide +kernel⟩
theorem fl_X8_19 : am_fl RX8 19 7 10 := ⟨RX8, TX8, 32, rfl, by decide, wfl_X8_19⟩
theorem wfl_X8_22 : am_T (.fieldLink RX8 22 "DifferRingsModel" "at" "[I") := ⟨List.mem_append_right _ (List.mem_of_getElem? (i := 690) (by decide +kernel)), by decide +kernel⟩
theorem fl_X8_22 : am_fl RX8 22 7 11 := ⟨RX8, TX8, 32, rfl, by decide, wfl_X8_22⟩
theorem wfl_X8_25 : am_T (.fieldLink RX8 25 "DifferRingsModel" "then" "[I") := ⟨List.mem_append_right _ (List.mem_of_getElem? (i := 691) (by decide +kernel)), by decide +kernel⟩
theorem fl_X8_25 : am_fl RX8 25 7 12 := ⟨RX8, TX8, 32, rfl, by decide, wfl_X8_25⟩
theorem wfl_X8_28 : am_T (.fieldLink RX8 28 "DifferRingsModel" "nextOf" "[I") := ⟨List.mem_append_right _ (List.mem_of_getElem? (i := 692) (by decide +kernel)), by decide +kernel⟩
theorem fl_X8_28 : am_fl RX8 28 7 13 := ⟨RX8, TX8, 32, rfl, by decide, wfl_X8_28⟩
theorem wfl_X8_31 : am_T (.fieldLink RX8 31 "DifferRingsModel" "fromOf" "[I") := ⟨List.mem_append_right _ (List.mem_of_getElem? (i := 693) (by decide +kernel)), by decide +kernel⟩
theorem fl_X8_31 : am_fl RX8 31 7 14 := ⟨RX8, TX8, 32, rfl, by decide, wfl_X8_31⟩
theorem wfl_X8_34 : am_T (.fieldLink RX8 34 "DifferRingsModel" "goneAt" "[I") := ⟨List.mem_append_right _ (List.mem_of_getElem? (i := 694) (by decide +kernel)), by decide +kernel⟩
theorem fl_X8_34 : am_fl RX8 34 7 15 := ⟨RX8, TX8, 32, rfl, by decide, wfl_X8_34⟩
theorem wfl_X8_37 : am_T (.fieldLink RX8 37 "DifferRingsModel" "tailOf" "[I") := ⟨List.mem_append_right _ (List.mem_of_getElem? (i := 695) (by decide +kernel)), by decide +kernel⟩
theorem fl_X8_37 : am_fl RX8 37 7 16 := ⟨RX8, TX8, 32, rfl, by decide, wfl_X8_37⟩
theorem wfl_X8_40 : am_T (.fieldLink RX8 40 "DifferRingsModel" "outOf" "[I") := ⟨List.mem_append_right _ (List.mem_of_getElem? (i := 696) (by decide +kernel)), by decide +kernel⟩
theorem fl_X8_40 : am_fl RX8 40 7 17 := ⟨RX8, TX8, 32, rfl, by decide, wfl_X8_40⟩
theorem wfl_X8_167 : am_T (.fieldLink RX8 167 "DifferRingsModel" "gone" "I") := ⟨List.mem_append_right _ (List.mem_of_getElem? (i := 697) (by decide +kernel)), by decide +kernel⟩
theorem fl_X8_167 : am_fl RX8 167 7 18 := ⟨RX8, TX8, 32, rfl, by decide, wfl_X8_167⟩
theorem wfl_X8_179 : am_T (.fieldLink RX8 179 "DifferRingsModel" "barren" "I") := ⟨List.mem_append_right _ (List.mem_of_getElem? (i := 698) (by decide +kernel)), by decide +kernel⟩
theorem fl_X8_179 : am_fl RX8 179 7 19 := ⟨RX8, TX8, 32, rfl, by decide, wfl_X8_179⟩
theorem wfl_X8_206 : am_T (.fieldLink RX8 206 "DifferRingsModel" "dayOuts" "I") := ⟨List.mem_append_right _ (List.mem_of_getElem? (i := 699) (by decide +kernel)), by decide +kernel⟩
theorem fl_X8_206 : am_fl RX8 206 7 20 := ⟨RX8, TX8, 32, rfl, by decide, wfl_X8_206⟩
theorem wfl_X8_200 : am_T (.fieldLink RX8 200 "DifferRingsModel" "daySteps" "I") := ⟨List.mem_append_right _ (List.mem_of_getElem? (i := 700) (by decide +kernel)), by decide +kernel⟩
theorem fl_X8_200 : am_fl RX8 200 7 21 := ⟨RX8, TX8, 32, rfl, by decide, wfl_X8_200⟩
theorem wfl_X8_43 : am_T (.fieldLink RX8 43 "DifferRingsModel" "hadNumber" "[I") := ⟨List.mem_append_right _ (List.mem_of_getElem? (i := 701) (by decide +kernel)), by decide +kernel⟩
theorem fl_X8_43 : am_fl RX8 43 7 22 := ⟨RX8, TX8, 32, rfl, by decide, wfl_X8_43⟩
theorem wfl_X8_133 : am_T (.fieldLink RX8 133 "DifferRingsModel" "readings" "I") := ⟨List.mem_append_right _ (List.mem_of_getElem? (i := 702) (by decide +kernel)), by decide +kernel⟩
theorem fl_X8_133 : am_fl RX8 133 7 23 := ⟨RX8, TX8, 32, rfl, by decide, wfl_X8_133⟩
theorem wfl_X8_46 : am_T (.fieldLink RX8 46 "DifferRingsModel" "readingAt" "[I") := ⟨List.mem_append_right _ (List.mem_of_getElem? (i := 703) (by decide +kernel)), by decide +kernel⟩
theorem fl_X8_46 : am_fl RX8 46 7 24 := ⟨RX8, TX8, 32, rfl, by decide, wfl_X8_46⟩
theorem wfl_X8_49 : am_T (.fieldLink RX8 49 "DifferRingsModel" "readingOf" "[I") := ⟨List.mem_append_right _ (List.mem_of_getElem? (i := 704) (by decide +kernel)), by decide +kernel⟩
theorem fl_X8_49 : am_fl RX8 49 7 25 := ⟨RX8, TX8, 32, rfl, by decide, wfl_X8_49⟩
theorem wfl_X8_52 : am_T (.fieldLink RX8 52 "DifferRingsModel" "readingIs" "[I") := ⟨List.mem_append_right _ (List.mem_of_getElem? (i := 705) (by decide +kernel)), by decide +kernel⟩
theorem fl_X8_52 : am_fl RX8 52 7 26 := ⟨RX8, TX8, 32, rfl, by decide, wfl_X8_52⟩
theorem wfl_X8_55 : am_T (.fieldLink RX8 55 "DifferRingsModel" "sheetSize" "[I") := ⟨List.mem_append_right _ (List.mem_of_getElem? (i := 706) (by decide +kernel)), by decide +kernel⟩
theorem fl_X8_55 : am_fl RX8 55 7 27 := ⟨RX8, TX8, 32, rfl, by decide, wfl_X8_55⟩
theorem wfl_X8_58 : am_T (.fieldLink RX8 58 "DifferRingsModel" "sheetLane" "[I") := ⟨List.mem_append_right _ (List.mem_of_getElem? (i := 707) (by decide +kernel)), by decide +kernel⟩
theorem fl_X8_58 : am_fl RX8 58 7 28 := ⟨RX8, TX8, 32, rfl, by decide, wfl_X8_58⟩
theorem wfl_X8_61 : am_T (.fieldLink RX8 61 "DifferRingsModel" "sheet" "[I") := ⟨List.mem_append_right _ (List.mem_of_getElem? (i := 708) (by decide +kernel)), by decide +kernel⟩
theorem fl_X8_61 : am_fl RX8 61 7 29 := ⟨RX8, TX8, 32, rfl, by decide, wfl_X8_61⟩
theorem wfl_X8_64 : am_T (.fieldLink RX8 64 "DifferRingsModel" "hands" "[I") := ⟨List.mem_append_right _ (List.mem_of_getElem? (i := 709) (by decide +kernel)), by decide +kernel⟩
theorem fl_X8_64 : am_fl RX8 64 7 30 := ⟨RX8, TX8, 32, rfl, by decide, wfl_X8_64⟩
theorem wfl_X8_263 : am_T (.fieldLink RX8 263 "DifferRingsModel" "traceNow" "I") := ⟨List.mem_append_right _ (List.mem_of_getElem? (i := 710) (by decide +kernel)), by decide +kernel⟩
theorem fl_X8_263 : am_fl RX8 263 7 31 := ⟨RX8, TX8, 32, rfl, by decide, wfl_X8_263⟩
theorem ml_L_9 : am_T (.methodLink RL 9 yX7_init) := ⟨List.mem_append_right _ (List.mem_of_getElem? (i := 16) (by decide +kernel)), by decide +kernel⟩
theorem ml_X7_3 : am_T (.methodLink RX7 3 objectInit) := ⟨List.mem_append_right _ (List.mem_of_getElem? (i := 19) (by decide +kernel)), by decide +kernel⟩
theorem ml_X4_3 : am_T (.methodLink RX4 3 objectInit) := ⟨List.mem_append_right _ (List.mem_of_getElem? (i := 28) (by decide +kernel)), by decide +kernel⟩
theorem ml_X3_3 : am_T (.methodLink RX3 3 objectInit) := ⟨List.mem_append_right _ (List.mem_of_getElem? (i := 46) (by decide +kernel)), by decide +kernel⟩
theorem ml_X0_3 : am_T (.methodLink RX0 3 objectInit) := ⟨List.mem_append_right _ (List.mem_of_getElem? (i := 80) (by decide +kernel)), by decide +kernel⟩
theorem ml_X5_3 : am_T (.methodLink RX5 3 objectInit) := ⟨List.mem_append_right _ (List.mem_of_getElem? (i := 139) (by decide +kernel)), by decide +kernel⟩
theorem ml_X2_3 : am_T (.methodLink RX2 3 objectInit) := ⟨List.mem_append_right _ (List.mem_of_getElem? (i := 161) (by decide +kernel)), by decide +kernel⟩
theorem ml_X1_3 : am_T (.methodLink RX1 3 objectInit) := ⟨List.mem_append_right _ (List.mem_of_getElem? (i := 181) (by decide +kernel)), by decide +kernel⟩
theorem ml_L_13 : am_T (.methodLink RL 13 yX7_ring) := ⟨List.mem_append_right _ (List.mem_of_getElem? (i := 226) (by decide +kernel)), by decide +kernel⟩
theorem ml_X7_60 : am_T (.methodLink RX7 60 yX7_isSheet) := ⟨List.mem_append_right _ (List.mem_of_getElem? (i := 230) (by decide +kernel)), by decide +kernel⟩
theorem ml_X7_64 : am_T (.methodLink RX7 64 yX7_isLane) := ⟨List.mem_append_right _ (List.mem_of_getElem? (i := 233) (by decide +kernel)), by decide +kernel⟩
theorem ml_X7_67 : am_T (.methodLink RX7 67 yX4_faultAs) := ⟨List.mem_append_right _ (List.mem_of_getElem? (i := 236) (by decide +kernel)), by decide +kernel⟩
theorem ml_X4_28 : am_T (.methodLink RX4 28 yX4_hasNothing) := ⟨List.mem_append_right _ (List.mem_of_getElem? (i := 240) (by decide +kernel)), by decide +kernel⟩
theorem ml_X4_32 : am_T (.methodLink RX4 32 yX4_faultOf) := ⟨List.mem_append_right _ (List.mem_of_getElem? (i := 244) (by decide +kernel)), by decide +kernel⟩
theorem ml_X4_36 : am_T (.methodLink RX4 36 yX4_spans) := ⟨List.mem_append_right _ (List.mem_of_getElem? (i := 248) (by decide +kernel)), by decide +kernel⟩
theorem ml_X7_71 : am_T (.methodLink RX7 71 yX7_answerOfFault) := ⟨List.mem_append_right _ (List.mem_of_getElem? (i := 252) (by decide +kernel)), by decide +kernel⟩
theorem ml_X7_75 : am_T (.methodLink RX7 75 yX6_firstFault) := ⟨List.mem_append_right _ (List.mem_of_getElem? (i := 256) (by decide +kernel)), by decide +kernel⟩
theorem ml_X6_9 : am_T (.methodLink RX6 9 yX4_at) := ⟨List.mem_append_right _ (List.mem_of_getElem? (i := 259) (by decide +kernel)), by decide +kernel⟩
theorem ml_X6_15 : am_T (.methodLink RX6 15 yX6_goesOn) := ⟨List.mem_append_right _ (List.mem_of_getElem? (i := 263) (by decide +kernel)), by decide +kernel⟩
theorem ml_X6_21 : am_T (.methodLink RX6 21 yX6_kindOf) := ⟨List.mem_append_right _ (List.mem_of_getElem? (i := 266) (by decide +kernel)), by decide +kernel⟩
theorem ml_X7_81 : am_T (.methodLink RX7 81 yX6_take) := ⟨List.mem_append_right _ (List.mem_of_getElem? (i := 269) (by decide +kernel)), by decide +kernel⟩
theorem ml_X6_30 : am_T (.methodLink RX6 30 yJ9_min_7cf53) := ⟨List.mem_append_right _ (List.mem_of_getElem? (i := 272) (by decide +kernel)), by decide +kernel⟩
theorem ml_X7_91 : am_T (.methodLink RX7 91 yX0_forget) := ⟨List.mem_append_right _ (List.mem_of_getElem? (i := 275) (by decide +kernel)), by decide +kernel⟩
theorem ml_X7_94 : am_T (.methodLink RX7 94 yX5_forget) := ⟨List.mem_append_right _ (List.mem_of_getElem? (i := 279) (by decide +kernel)), by decide +kernel⟩
theorem ml_L_18 : am_T (.methodLink RL 18 yX7_ofPlace) := ⟨List.mem_append_right _ (List.mem_of_getElem? (i := 283) (by decide +kernel)), by decide +kernel⟩
theorem ml_X7_98 : am_T (.methodLink RX7 98 yX3_has) := ⟨List.mem_append_right _ (List.mem_of_getElem? (i := 287) (by decide +kernel)), by decide +kernel⟩
theorem ml_X7_108 : am_T (.methodLink RX7 108 yX3_stepped) := ⟨List.mem_append_right _ (List.mem_of_getElem? (i := 291) (by decide +kernel)), by decide +kernel⟩
theorem ml_X3_54 : am_T (.methodLink RX3 54 yX3_howFar) := ⟨List.mem_append_right _ (List.mem_of_getElem? (i := 295) (by decide +kernel)), by decide +kernel⟩
theorem ml_X3_58 : am_T (.methodLink RX3 58 yJ9_abs_0f7a4) := ⟨List.mem_append_right _ (List.mem_of_getElem? (i := 299) (by decide +kernel)), by decide +kernel⟩
theorem ml_L_23 : am_T (.methodLink RL 23 yX7_write) := ⟨List.mem_append_right _ (List.mem_of_getElem? (i := 302) (by decide +kernel)), by decide +kernel⟩
theorem ml_X7_112 : am_T (.methodLink RX7 112 yX3_isNumber) := ⟨List.mem_append_right _ (List.mem_of_getElem? (i := 306) (by decide +kernel)), by decide +kernel⟩
theorem ml_L_27 : am_T (.methodLink RL 27 yX7_steps) := ⟨List.mem_append_right _ (List.mem_of_getElem? (i := 310) (by decide +kernel)), by decide +kernel⟩
theorem ml_X7_115 : am_T (.methodLink RX7 115 yX3_isNone) := ⟨List.mem_append_right _ (List.mem_of_getElem? (i := 314) (by decide +kernel)), by decide +kernel⟩
theorem ml_X7_119 : am_T (.methodLink RX7 119 yX3_go) := ⟨List.mem_append_right _ (List.mem_of_getElem? (i := 318) (by decide +kernel)), by decide +kernel⟩
theorem ml_X3_63 : am_T (.methodLink RX3 63 yX3_stepped) := ⟨List.mem_append_right _ (List.mem_of_getElem? (i := 322) (by decide +kernel)), by decide +kernel⟩
theorem ml_X3_32 : am_T (.methodLink RX3 32 arraycopyName) := ⟨List.mem_append_right _ (List.mem_of_getElem? (i := 323) (by decide +kernel)), by decide +kernel⟩
theorem ml_X7_123 : am_T (.methodLink RX7 123 yX3_zeros) := ⟨List.mem_append_right _ (List.mem_of_getElem? (i := 326) (by decide +kernel)), by decide +kernel⟩
theorem ml_L_34 : am_T (.methodLink RL 34 yX7_after) := ⟨List.mem_append_right _ (List.mem_of_getElem? (i := 330) (by decide +kernel)), by decide +kernel⟩
theorem ml_X7_128 : am_T (.methodLink RX7 128 yX0_workOut) := ⟨List.mem_append_right _ (List.mem_of_getElem? (i := 335) (by decide +kernel)), by decide +kernel⟩
theorem ml_X0_59 : am_T (.methodLink RX0 59 yX3_isNone) := ⟨List.mem_append_right _ (List.mem_of_getElem? (i := 339) (by decide +kernel)), by decide +kernel⟩
theorem ml_X0_63 : am_T (.methodLink RX0 63 yX3_takeKinds) := ⟨List.mem_append_right _ (List.mem_of_getElem? (i := 340) (by decide +kernel)), by decide +kernel⟩
theorem ml_X0_73 : am_T (.methodLink RX0 73 yX0_makeRoom) := ⟨List.mem_append_right _ (List.mem_of_getElem? (i := 344) (by decide +kernel)), by decide +kernel⟩
theorem ml_X0_76 : am_T (.methodLink RX0 76 yX0_findNext) := ⟨List.mem_append_right _ (List.mem_of_getElem? (i := 348) (by decide +kernel)), by decide +kernel⟩
theorem ml_X0_91 : am_T (.methodLink RX0 91 yJ7_fill_53178) := ⟨List.mem_append_right _ (List.mem_of_getElem? (i := 352) (by decide +kernel)), by decide +kernel⟩
theorem ml_X0_97 : am_T (.methodLink RX0 97 yX3_takeFirstRow) := ⟨List.mem_append_right _ (List.mem_of_getElem? (i := 355) (by decide +kernel)), by decide +kernel⟩
theorem ml_X3_48 : am_T (.methodLink RX3 48 yJ7_fill_53178) := ⟨List.mem_append_right _ (List.mem_of_getElem? (i := 359) (by decide +kernel)), by decide +kernel⟩
theorem ml_X0_100 : am_T (.methodLink RX0 100 yX3_steppedCode) := ⟨List.mem_append_right _ (List.mem_of_getElem? (i := 360) (by decide +kernel)), by decide +kernel⟩
theorem ml_X0_104 : am_T (.methodLink RX0 104 yX3_takeNextRow) := ⟨List.mem_append_right _ (List.mem_of_getElem? (i := 364) (by decide +kernel)), by decide +kernel⟩
theorem ml_X0_79 : am_T (.methodLink RX0 79 yX0_orderThoseThatDoNotComeBack) := ⟨List.mem_append_right _ (List.mem_of_getElem? (i := 368) (by decide +kernel)), by decide +kernel⟩
theorem ml_X0_82 : am_T (.methodLink RX0 82 yX0_findRounds) := ⟨List.mem_append_right _ (List.mem_of_getElem? (i := 372) (by decide +kernel)), by decide +kernel⟩
theorem ml_X0_107 : am_T (.methodLink RX0 107 yX0_markRound) := ⟨List.mem_append_right _ (List.mem_of_getElem? (i := 376) (by decide +kernel)), by decide +kernel⟩
theorem ml_X0_85 : am_T (.methodLink RX0 85 yX0_findTails) := ⟨List.mem_append_right _ (List.mem_of_getElem? (i := 380) (by decide +kernel)), by decide +kernel⟩
theorem ml_X0_88 : am_T (.methodLink RX0 88 yX0_sumUp) := ⟨List.mem_append_right _ (List.mem_of_getElem? (i := 384) (by decide +kernel)), by decide +kernel⟩
theorem ml_X0_111 : am_T (.methodLink RX0 111 yX0_goesOut) := ⟨List.mem_append_right _ (List.mem_of_getElem? (i := 388) (by decide +kernel)), by decide +kernel⟩
theorem ml_X0_115 : am_T (.methodLink RX0 115 yX0_isRow) := ⟨List.mem_append_right _ (List.mem_of_getElem? (i := 392) (by decide +kernel)), by decide +kernel⟩
theorem ml_X7_132 : am_T (.methodLink RX7 132 yX3_code) := ⟨List.mem_append_right _ (List.mem_of_getElem? (i := 396) (by decide +kernel)), by decide +kernel⟩
theorem ml_X7_135 : am_T (.methodLink RX7 135 yX0_behind) := ⟨List.mem_append_right _ (List.mem_of_getElem? (i := 400) (by decide +kernel)), by decide +kernel⟩
theorem ml_X0_122 : am_T (.methodLink RX0 122 yX0_tailOf) := ⟨List.mem_append_right _ (List.mem_of_getElem? (i := 404) (by decide +kernel)), by decide +kernel⟩
theorem ml_X0_125 : am_T (.methodLink RX0 125 yX0_roundOf) := ⟨List.mem_append_right _ (List.mem_of_getElem? (i := 408) (by decide +kernel)), by decide +kernel⟩
theorem ml_X0_118 : am_T (.methodLink RX0 118 yX0_nextOf) := ⟨List.mem_append_right _ (List.mem_of_getElem? (i := 412) (by decide +kernel)), by decide +kernel⟩
theorem ml_X7_139 : am_T (.methodLink RX7 139 yX0_numberIn) := ⟨List.mem_append_right _ (List.mem_of_getElem? (i := 416) (by decide +kernel)), by decide +kernel⟩
theorem ml_L_39 : am_T (.methodLink RL 39 yX7_day) := ⟨List.mem_append_right _ (List.mem_of_getElem? (i := 420) (by decide +kernel)), by decide +kernel⟩
theorem ml_X7_143 : am_T (.methodLink RX7 143 yX7_isOfDay) := ⟨List.mem_append_right _ (List.mem_of_getElem? (i := 424) (by decide +kernel)), by decide +kernel⟩
theorem ml_X7_146 : am_T (.methodLink RX7 146 yX1_areActs) := ⟨List.mem_append_right _ (List.mem_of_getElem? (i := 427) (by decide +kernel)), by decide +kernel⟩
theorem ml_X1_21 : am_T (.methodLink RX1 21 yX4_at) := ⟨List.mem_append_right _ (List.mem_of_getElem? (i := 430) (by decide +kernel)), by decide +kernel⟩
theorem ml_X1_27 : am_T (.methodLink RX1 27 yX1_isAct) := ⟨List.mem_append_right _ (List.mem_of_getElem? (i := 431) (by decide +kernel)), by decide +kernel⟩
theorem ml_X7_150 : am_T (.methodLink RX7 150 yX3_takeAll) := ⟨List.mem_append_right _ (List.mem_of_getElem? (i := 434) (by decide +kernel)), by decide +kernel⟩
theorem ml_X3_28 : am_T (.methodLink RX3 28 yX3_takeKinds) := ⟨List.mem_append_right _ (List.mem_of_getElem? (i := 438) (by decide +kernel)), by decide +kernel⟩
theorem ml_X7_153 : am_T (.methodLink RX7 153 yX1_play) := ⟨List.mem_append_right _ (List.mem_of_getElem? (i := 439) (by decide +kernel)), by decide +kernel⟩
theorem ml_X1_31 : am_T (.methodLink RX1 31 yX1_canDo) := ⟨List.mem_append_right _ (List.mem_of_getElem? (i := 443) (by decide +kernel)), by decide +kernel⟩
theorem ml_X1_41 : am_T (.methodLink RX1 41 yX3_go) := ⟨List.mem_append_right _ (List.mem_of_getElem? (i := 447) (by decide +kernel)), by decide +kernel⟩
theorem ml_X1_45 : am_T (.methodLink RX1 45 yX3_has) := ⟨List.mem_append_right _ (List.mem_of_getElem? (i := 448) (by decide +kernel)), by decide +kernel⟩
theorem ml_X1_49 : am_T (.methodLink RX1 49 yX3_isNumber) := ⟨List.mem_append_right _ (List.mem_of_getElem? (i := 449) (by decide +kernel)), by decide +kernel⟩
theorem ml_X1_35 : am_T (.methodLink RX1 35 yX3_isOut) := ⟨List.mem_append_right _ (List.mem_of_getElem? (i := 450) (by decide +kernel)), by decide +kernel⟩
theorem ml_X3_66 : am_T (.methodLink RX3 66 yX3_zeros) := ⟨List.mem_append_right _ (List.mem_of_getElem? (i := 454) (by decide +kernel)), by decide +kernel⟩
theorem ml_X7_157 : am_T (.methodLink RX7 157 yX7_ofDay) := ⟨List.mem_append_right _ (List.mem_of_getElem? (i := 455) (by decide +kernel)), by decide +kernel⟩
theorem ml_X7_163 : am_T (.methodLink RX7 163 yX3_total) := ⟨List.mem_append_right _ (List.mem_of_getElem? (i := 459) (by decide +kernel)), by decide +kernel⟩
theorem ml_X7_172 : am_T (.methodLink RX7 172 yX0_tailOf) := ⟨List.mem_append_right _ (List.mem_of_getElem? (i := 463) (by decide +kernel)), by decide +kernel⟩
theorem ml_L_44 : am_T (.methodLink RL 44 yX7_now) := ⟨List.mem_append_right _ (List.mem_of_getElem? (i := 464) (by decide +kernel)), by decide +kernel⟩
theorem ml_X7_175 : am_T (.methodLink RX7 175 yX0_roundOf) := ⟨List.mem_append_right _ (List.mem_of_getElem? (i := 468) (by decide +kernel)), by decide +kernel⟩
theorem ml_X7_178 : am_T (.methodLink RX7 178 yX0_goesOut) := ⟨List.mem_append_right _ (List.mem_of_getElem? (i := 469) (by decide +kernel)), by decide +kernel⟩
theorem ml_L_48 : am_T (.methodLink RL 48 yX7_from) := ⟨List.mem_append_right _ (List.mem_of_getElem? (i := 470) (by decide +kernel)), by decide +kernel⟩
theorem ml_X7_181 : am_T (.methodLink RX7 181 yX0_comersOf) := ⟨List.mem_append_right _ (List.mem_of_getElem? (i := 474) (by decide +kernel)), by decide +kernel⟩
theorem ml_X7_184 : am_T (.methodLink RX7 184 yX0_firstComerOf) := ⟨List.mem_append_right _ (List.mem_of_getElem? (i := 478) (by decide +kernel)), by decide +kernel⟩
theorem ml_L_52 : am_T (.methodLink RL 52 yX7_rows) := ⟨List.mem_append_right _ (List.mem_of_getElem? (i := 482) (by decide +kernel)), by decide +kernel⟩
theorem ml_L_56 : am_T (.methodLink RL 56 yX7_longest) := ⟨List.mem_append_right _ (List.mem_of_getElem? (i := 486) (by decide +kernel)), by decide +kernel⟩
theorem ml_L_60 : am_T (.methodLink RL 60 yX7_meet) := ⟨List.mem_append_right _ (List.mem_of_getElem? (i := 490) (by decide +kernel)), by decide +kernel⟩
theorem ml_X7_206 : am_T (.methodLink RX7 206 yX3_takeRow) := ⟨List.mem_append_right _ (List.mem_of_getElem? (i := 494) (by decide +kernel)), by decide +kernel⟩
theorem ml_X3_38 : am_T (.methodLink RX3 38 yX4_at) := ⟨List.mem_append_right _ (List.mem_of_getElem? (i := 498) (by decide +kernel)), by decide +kernel⟩
theorem ml_X3_44 : am_T (.methodLink RX3 44 yX3_isNumber) := ⟨List.mem_append_right _ (List.mem_of_getElem? (i := 499) (by decide +kernel)), by decide +kernel⟩
theorem ml_X7_210 : am_T (.methodLink RX7 210 yX0_meeting) := ⟨List.mem_append_right _ (List.mem_of_getElem? (i := 500) (by decide +kernel)), by decide +kernel⟩
theorem ml_L_65 : am_T (.methodLink RL 65 yX7_few) := ⟨List.mem_append_right _ (List.mem_of_getElem? (i := 504) (by decide +kernel)), by decide +kernel⟩
theorem ml_X7_213 : am_T (.methodLink RX7 213 yX0_leastSetToGoOut) := ⟨List.mem_append_right _ (List.mem_of_getElem? (i := 508) (by decide +kernel)), by decide +kernel⟩
theorem ml_X0_128 : am_T (.methodLink RX0 128 yX0_unlikePlaces) := ⟨List.mem_append_right _ (List.mem_of_getElem? (i := 512) (by decide +kernel)), by decide +kernel⟩
theorem ml_X0_132 : am_T (.methodLink RX0 132 yJ6_bitCount_0f7a4) := ⟨List.mem_append_right _ (List.mem_of_getElem? (i := 516) (by decide +kernel)), by decide +kernel⟩
theorem ml_X7_216 : am_T (.methodLink RX7 216 yJ6_bitCount_0f7a4) := ⟨List.mem_append_right _ (List.mem_of_getElem? (i := 522) (by decide +kernel)), by decide +kernel⟩
theorem ml_L_69 : am_T (.methodLink RL 69 yX7_reading) := ⟨List.mem_append_right _ (List.mem_of_getElem? (i := 523) (by decide +kernel)), by decide +kernel⟩
theorem ml_X7_221 : am_T (.methodLink RX7 221 yX7_isReadable) := ⟨List.mem_append_right _ (List.mem_of_getElem? (i := 527) (by decide +kernel)), by decide +kernel⟩
theorem ml_X7_225 : am_T (.methodLink RX7 225 yX2_keep) := ⟨List.mem_append_right _ (List.mem_of_getElem? (i := 530) (by decide +kernel)), by decide +kernel⟩
theorem ml_L_73 : am_T (.methodLink RL 73 yX7_back) := ⟨List.mem_append_right _ (List.mem_of_getElem? (i := 534) (by decide +kernel)), by decide +kernel⟩
theorem ml_L_77 : am_T (.methodLink RL 77 yX7_kinds) := ⟨List.mem_append_right _ (List.mem_of_getElem? (i := 538) (by decide +kernel)), by decide +kernel⟩
theorem ml_X7_228 : am_T (.methodLink RX7 228 yX2_areSo) := ⟨List.mem_append_right _ (List.mem_of_getElem? (i := 542) (by decide +kernel)), by decide +kernel⟩
theorem ml_X2_25 : am_T (.methodLink RX2 25 yX2_lastTime) := ⟨List.mem_append_right _ (List.mem_of_getElem? (i := 546) (by decide +kernel)), by decide +kernel⟩
theorem ml_X2_39 : am_T (.methodLink RX2 39 yJ9_max_7cf53) := ⟨List.mem_append_right _ (List.mem_of_getElem? (i := 550) (by decide +kernel)), by decide +kernel⟩
theorem ml_X2_29 : am_T (.methodLink RX2 29 yX2_areSoAt) := ⟨List.mem_append_right _ (List.mem_of_getElem? (i := 553) (by decide +kernel)), by decide +kernel⟩
theorem ml_X2_33 : am_T (.methodLink RX2 33 yX3_go) := ⟨List.mem_append_right _ (List.mem_of_getElem? (i := 557) (by decide +kernel)), by decide +kernel⟩
theorem ml_L_81 : am_T (.methodLink RL 81 yX7_firsts) := ⟨List.mem_append_right _ (List.mem_of_getElem? (i := 558) (by decide +kernel)), by decide +kernel⟩
theorem ml_L_85 : am_T (.methodLink RL 85 yX7_odds) := ⟨List.mem_append_right _ (List.mem_of_getElem? (i := 562) (by decide +kernel)), by decide +kernel⟩
theorem ml_X7_237 : am_T (.methodLink RX7 237 yX5_goTo) := ⟨List.mem_append_right _ (List.mem_of_getElem? (i := 567) (by decide +kernel)), by decide +kernel⟩
theorem ml_X5_28 : am_T (.methodLink RX5 28 yX5_begin) := ⟨List.mem_append_right _ (List.mem_of_getElem? (i := 571) (by decide +kernel)), by decide +kernel⟩
theorem ml_X5_32 : am_T (.methodLink RX5 32 yX5_stepAll) := ⟨List.mem_append_right _ (List.mem_of_getElem? (i := 575) (by decide +kernel)), by decide +kernel⟩
theorem ml_X5_40 : am_T (.methodLink RX5 40 yX0_nextOf) := ⟨List.mem_append_right _ (List.mem_of_getElem? (i := 579) (by decide +kernel)), by decide +kernel⟩
theorem ml_X7_241 : am_T (.methodLink RX7 241 yX5_howMany) := ⟨List.mem_append_right _ (List.mem_of_getElem? (i := 580) (by decide +kernel)), by decide +kernel⟩
theorem ml_X5_44 : am_T (.methodLink RX5 44 yX0_numberIn) := ⟨List.mem_append_right _ (List.mem_of_getElem? (i := 584) (by decide +kernel)), by decide +kernel⟩
theorem ml_X7_245 : am_T (.methodLink RX7 245 yX7_commonDivisor) := ⟨List.mem_append_right _ (List.mem_of_getElem? (i := 585) (by decide +kernel)), by decide +kernel⟩
theorem ml_L_90 : am_T (.methodLink RL 90 yX7_sheet) := ⟨List.mem_append_right _ (List.mem_of_getElem? (i := 588) (by decide +kernel)), by decide +kernel⟩
theorem ml_X7_248 : am_T (.methodLink RX7 248 yX4_renew) := ⟨List.mem_append_right _ (List.mem_of_getElem? (i := 592) (by decide +kernel)), by decide +kernel⟩
theorem ml_X4_22 : am_T (.methodLink RX4 22 yJ7_fill_53178) := ⟨List.mem_append_right _ (List.mem_of_getElem? (i := 596) (by decide +kernel)), by decide +kernel⟩
theorem ml_L_94 : am_T (.methodLink RL 94 yX7_lose) := ⟨List.mem_append_right _ (List.mem_of_getElem? (i := 597) (by decide +kernel)), by decide +kernel⟩
theorem ml_X7_252 : am_T (.methodLink RX7 252 yX4_hasNothing) := ⟨List.mem_append_right _ (List.mem_of_getElem? (i := 601) (by decide +kernel)), by decide +kernel⟩
theorem ml_X7_255 : am_T (.methodLink RX7 255 yX4_drop) := ⟨List.mem_append_right _ (List.mem_of_getElem? (i := 602) (by decide +kernel)), by decide +kernel⟩
theorem ml_L_98 : am_T (.methodLink RL 98 yX7_put) := ⟨List.mem_append_right _ (List.mem_of_getElem? (i := 606) (by decide +kernel)), by decide +kernel⟩
theorem ml_X7_258 : am_T (.methodLink RX7 258 yX4_faultOf) := ⟨List.mem_append_right _ (List.mem_of_getElem? (i := 610) (by decide +kernel)), by decide +kernel⟩
theorem ml_X7_261 : am_T (.methodLink RX7 261 yX4_change) := ⟨List.mem_append_right _ (List.mem_of_getElem? (i := 611) (by decide +kernel)), by decide +kernel⟩
theorem ml_X4_40 : am_T (.methodLink RX4 40 yX4_cut) := ⟨List.mem_append_right _ (List.mem_of_getElem? (i := 615) (by decide +kernel)), by decide +kernel⟩
theorem ml_L_102 : am_T (.methodLink RL 102 yX7_cell) := ⟨List.mem_append_right _ (List.mem_of_getElem? (i := 619) (by decide +kernel)), by decide +kernel⟩
theorem ml_X7_264 : am_T (.methodLink RX7 264 yX4_at) := ⟨List.mem_append_right _ (List.mem_of_getElem? (i := 623) (by decide +kernel)), by decide +kernel⟩
theorem ml_L_107 : am_T (.methodLink RL 107 yX7_copy) := ⟨List.mem_append_right _ (List.mem_of_getElem? (i := 624) (by decide +kernel)), by decide +kernel⟩
theorem ml_X7_267 : am_T (.methodLink RX7 267 yX4_faultOfCopy) := ⟨List.mem_append_right _ (List.mem_of_getElem? (i := 628) (by decide +kernel)), by decide +kernel⟩
theorem ml_X7_274 : am_T (.methodLink RX7 274 arraycopyName) := ⟨List.mem_append_right _ (List.mem_of_getElem? (i := 632) (by decide +kernel)), by decide +kernel⟩
theorem ml_L_111 : am_T (.methodLink RL 111 yX7_tell) := ⟨List.mem_append_right _ (List.mem_of_getElem? (i := 633) (by decide +kernel)), by decide +kernel⟩
theorem ml_X7_280 : am_T (.methodLink RX7 280 yX7_tellPlain) := ⟨List.mem_append_right _ (List.mem_of_getElem? (i := 637) (by decide +kernel)), by decide +kernel⟩
theorem ml_X7_289 : am_T (.methodLink RX7 289 yX7_leave) := ⟨List.mem_append_right _ (List.mem_of_getElem? (i := 641) (by decide +kernel)), by decide +kernel⟩
theorem ml_X7_283 : am_T (.methodLink RX7 283 yX7_tellFar) := ⟨List.mem_append_right _ (List.mem_of_getElem? (i := 645) (by decide +kernel)), by decide +kernel⟩
theorem ml_X7_286 : am_T (.methodLink RX7 286 yX7_tellMixed) := ⟨List.mem_append_right _ (List.mem_of_getElem? (i := 649) (by decide +kernel)), by decide +kernel⟩
theorem ml_L_115 : am_T (.methodLink RL 115 yX7_call) := ⟨List.mem_append_right _ (List.mem_of_getElem? (i := 653) (by decide +kernel)), by decide +kernel⟩
theorem ml_L_119 : am_T (.methodLink RL 119 yX7_as) := ⟨List.mem_append_right _ (List.mem_of_getElem? (i := 657) (by decide +kernel)), by decide +kernel⟩
theorem ml_L_123 : am_T (.methodLink RL 123 yX7_trace) := ⟨List.mem_append_right _ (List.mem_of_getElem? (i := 661) (by decide +kernel)), by decide +kernel⟩
theorem ml_L_128 : am_T (.methodLink RL 128 yX7_fault) := ⟨List.mem_append_right _ (List.mem_of_getElem? (i := 665) (by decide +kernel)), by decide +kernel⟩
theorem ml_L_132 : am_T (.methodLink RL 132 yX7_many) := ⟨List.mem_append_right _ (List.mem_of_getElem? (i := 669) (by decide +kernel)), by decide +kernel⟩
theorem ml_L_12 : am_T (.methodLink RL 12 yX8_init) := ⟨List.mem_append_right _ (List.mem_of_getElem? (i := 675) (by decide +kernel)), by decide +kernel⟩
theorem ml_X8_1 : am_T (.methodLink RX8 1 objectInit) := ⟨List.mem_append_right _ (List.mem_of_getElem? (i := 678) (by decide +kernel)), by decide +kernel⟩
theorem ml_L_17 : am_T (.methodLink RL 17 yX8_ring) := ⟨List.mem_append_right _ (List.mem_of_getElem? (i := 776) (by decide +kernel)), by decide +kernel⟩
theorem ml_X8_113 : am_T (.methodLink RX8 113 yX8_noSheet) := ⟨List.mem_append_right _ (List.mem_of_getElem? (i := 780) (by decide +kernel)), by decide +kernel⟩
theorem ml_X8_80 : am_T (.methodLink RX8 80 yX8_in) := ⟨List.mem_append_right _ (List.mem_of_getElem? (i := 784) (by decide +kernel)), by decide +kernel⟩
theorem ml_X8_117 : am_T (.methodLink RX8 117 yX8_refused) := ⟨List.mem_append_right _ (List.mem_of_getElem? (i := 787) (by decide +kernel)), by decide +kernel⟩
theorem ml_X8_120 : am_T (.methodLink RX8 120 yX8_cellsBarred) := ⟨List.mem_append_right _ (List.mem_of_getElem? (i := 792) (by decide +kernel)), by decide +kernel⟩
theorem ml_X8_105 : am_T (.methodLink RX8 105 yX8_failed) := ⟨List.mem_append_right _ (List.mem_of_getElem? (i := 796) (by decide +kernel)), by decide +kernel⟩
theorem ml_X8_109 : am_T (.methodLink RX8 109 yX8_isBeyond) := ⟨List.mem_append_right _ (List.mem_of_getElem? (i := 800) (by decide +kernel)), by decide +kernel⟩
theorem ml_X8_124 : am_T (.methodLink RX8 124 yX8_readsRing) := ⟨List.mem_append_right _ (List.mem_of_getElem? (i := 803) (by decide +kernel)), by decide +kernel⟩
theorem ml_X8_90 : am_T (.methodLink RX8 90 yX8_codeAt) := ⟨List.mem_append_right _ (List.mem_of_getElem? (i := 807) (by decide +kernel)), by decide +kernel⟩
theorem ml_X8_101 : am_T (.methodLink RX8 101 yX8_readsPlace) := ⟨List.mem_append_right _ (List.mem_of_getElem? (i := 812) (by decide +kernel)), by decide +kernel⟩
theorem ml_L_22 : am_T (.methodLink RL 22 yX8_ofPlace) := ⟨List.mem_append_right _ (List.mem_of_getElem? (i := 816) (by decide +kernel)), by decide +kernel⟩
theorem ml_X8_149 : am_T (.methodLink RX8 149 yX8_noPlace) := ⟨List.mem_append_right _ (List.mem_of_getElem? (i := 820) (by decide +kernel)), by decide +kernel⟩
theorem ml_X8_142 : am_T (.methodLink RX8 142 yX8_takesNow) := ⟨List.mem_append_right _ (List.mem_of_getElem? (i := 824) (by decide +kernel)), by decide +kernel⟩
theorem ml_X8_139 : am_T (.methodLink RX8 139 yX8_becomes) := ⟨List.mem_append_right _ (List.mem_of_getElem? (i := 828) (by decide +kernel)), by decide +kernel⟩
theorem ml_X8_136 : am_T (.methodLink RX8 136 yX8_apart) := ⟨List.mem_append_right _ (List.mem_of_getElem? (i := 832) (by decide +kernel)), by decide +kernel⟩
theorem ml_L_26 : am_T (.methodLink RL 26 yX8_write) := ⟨List.mem_append_right _ (List.mem_of_getElem? (i := 835) (by decide +kernel)), by decide +kernel⟩
theorem ml_X8_152 : am_T (.methodLink RX8 152 yX8_isNumber) := ⟨List.mem_append_right _ (List.mem_of_getElem? (i := 839) (by decide +kernel)), by decide +kernel⟩
theorem ml_L_31 : am_T (.methodLink RL 31 yX8_steps) := ⟨List.mem_append_right _ (List.mem_of_getElem? (i := 843) (by decide +kernel)), by decide +kernel⟩
theorem ml_X8_160 : am_T (.methodLink RX8 160 yX8_doesSteps) := ⟨List.mem_append_right _ (List.mem_of_getElem? (i := 848) (by decide +kernel)), by decide +kernel⟩
theorem ml_X8_155 : am_T (.methodLink RX8 155 yX8_stepsOnce) := ⟨List.mem_append_right _ (List.mem_of_getElem? (i := 852) (by decide +kernel)), by decide +kernel⟩
theorem ml_X8_164 : am_T (.methodLink RX8 164 yX8_zeros) := ⟨List.mem_append_right _ (List.mem_of_getElem? (i := 856) (by decide +kernel)), by decide +kernel⟩
theorem ml_L_38 : am_T (.methodLink RL 38 yX8_after) := ⟨List.mem_append_right _ (List.mem_of_getElem? (i := 860) (by decide +kernel)), by decide +kernel⟩
theorem ml_X8_191 : am_T (.methodLink RX8 191 yX8_rowNow) := ⟨List.mem_append_right _ (List.mem_of_getElem? (i := 865) (by decide +kernel)), by decide +kernel⟩
theorem ml_X8_145 : am_T (.methodLink RX8 145 yX8_rowAt) := ⟨List.mem_append_right _ (List.mem_of_getElem? (i := 869) (by decide +kernel)), by decide +kernel⟩
theorem ml_X8_194 : am_T (.methodLink RX8 194 yX8_tables) := ⟨List.mem_append_right _ (List.mem_of_getElem? (i := 873) (by decide +kernel)), by decide +kernel⟩
theorem ml_X8_170 : am_T (.methodLink RX8 170 yX8_allRows) := ⟨List.mem_append_right _ (List.mem_of_getElem? (i := 877) (by decide +kernel)), by decide +kernel⟩
theorem ml_X8_173 : am_T (.methodLink RX8 173 yX8_takesRow) := ⟨List.mem_append_right _ (List.mem_of_getElem? (i := 881) (by decide +kernel)), by decide +kernel⟩
theorem ml_X8_176 : am_T (.methodLink RX8 176 yX8_takesAway) := ⟨List.mem_append_right _ (List.mem_of_getElem? (i := 885) (by decide +kernel)), by decide +kernel⟩
theorem ml_X8_197 : am_T (.methodLink RX8 197 yX8_roundOf) := ⟨List.mem_append_right _ (List.mem_of_getElem? (i := 889) (by decide +kernel)), by decide +kernel⟩
theorem ml_X8_182 : am_T (.methodLink RX8 182 yX8_behind) := ⟨List.mem_append_right _ (List.mem_of_getElem? (i := 893) (by decide +kernel)), by decide +kernel⟩
theorem ml_X8_186 : am_T (.methodLink RX8 186 yX8_roundFrom) := ⟨List.mem_append_right _ (List.mem_of_getElem? (i := 897) (by decide +kernel)), by decide +kernel⟩
theorem ml_L_43 : am_T (.methodLink RL 43 yX8_day) := ⟨List.mem_append_right _ (List.mem_of_getElem? (i := 901) (by decide +kernel)), by decide +kernel⟩
theorem ml_X8_228 : am_T (.methodLink RX8 228 yX8_dayOf) := ⟨List.mem_append_right _ (List.mem_of_getElem? (i := 910) (by decide +kernel)), by decide +kernel⟩
theorem ml_X8_209 : am_T (.methodLink RX8 209 yX8_doesPair) := ⟨List.mem_append_right _ (List.mem_of_getElem? (i := 914) (by decide +kernel)), by decide +kernel⟩
theorem ml_X8_203 : am_T (.methodLink RX8 203 yX8_write) := ⟨List.mem_append_right _ (List.mem_of_getElem? (i := 918) (by decide +kernel)), by decide +kernel⟩
theorem ml_X8_212 : am_T (.methodLink RX8 212 yX8_sumNow) := ⟨List.mem_append_right _ (List.mem_of_getElem? (i := 919) (by decide +kernel)), by decide +kernel⟩
theorem ml_X8_215 : am_T (.methodLink RX8 215 yX8_tailNow) := ⟨List.mem_append_right _ (List.mem_of_getElem? (i := 923) (by decide +kernel)), by decide +kernel⟩
theorem ml_L_47 : am_T (.methodLink RL 47 yX8_now) := ⟨List.mem_append_right _ (List.mem_of_getElem? (i := 927) (by decide +kernel)), by decide +kernel⟩
theorem ml_L_51 : am_T (.methodLink RL 51 yX8_from) := ⟨List.mem_append_right _ (List.mem_of_getElem? (i := 931) (by decide +kernel)), by decide +kernel⟩
theorem ml_L_55 : am_T (.methodLink RL 55 yX8_rows) := ⟨List.mem_append_right _ (List.mem_of_getElem? (i := 936) (by decide +kernel)), by decide +kernel⟩
theorem ml_X8_234 : am_T (.methodLink RX8 234 yX8_rounds) := ⟨List.mem_append_right _ (List.mem_of_getElem? (i := 940) (by decide +kernel)), by decide +kernel⟩
theorem ml_L_59 : am_T (.methodLink RL 59 yX8_longest) := ⟨List.mem_append_right _ (List.mem_of_getElem? (i := 944) (by decide +kernel)), by decide +kernel⟩
theorem ml_L_64 : am_T (.methodLink RL 64 yX8_meet) := ⟨List.mem_append_right _ (List.mem_of_getElem? (i := 948) (by decide +kernel)), by decide +kernel⟩
theorem ml_L_68 : am_T (.methodLink RL 68 yX8_few) := ⟨List.mem_append_right _ (List.mem_of_getElem? (i := 952) (by decide +kernel)), by decide +kernel⟩
theorem ml_X8_237 : am_T (.methodLink RX8 237 yX8_unlikeNow) := ⟨List.mem_append_right _ (List.mem_of_getElem? (i := 956) (by decide +kernel)), by decide +kernel⟩
theorem ml_X8_240 : am_T (.methodLink RX8 240 yX8_bits) := ⟨List.mem_append_right _ (List.mem_of_getElem? (i := 960) (by decide +kernel)), by decide +kernel⟩
theorem ml_L_72 : am_T (.methodLink RL 72 yX8_reading) := ⟨List.mem_append_right _ (List.mem_of_getElem? (i := 963) (by decide +kernel)), by decide +kernel⟩
theorem ml_L_76 : am_T (.methodLink RL 76 yX8_back) := ⟨List.mem_append_right _ (List.mem_of_getElem? (i := 967) (by decide +kernel)), by decide +kernel⟩
theorem ml_L_80 : am_T (.methodLink RL 80 yX8_kinds) := ⟨List.mem_append_right _ (List.mem_of_getElem? (i := 971) (by decide +kernel)), by decide +kernel⟩
theorem ml_X8_246 : am_T (.methodLink RX8 246 yX8_areSo) := ⟨List.mem_append_right _ (List.mem_of_getElem? (i := 975) (by decide +kernel)), by decide +kernel⟩
theorem ml_X8_243 : am_T (.methodLink RX8 243 yX8_isSo) := ⟨List.mem_append_right _ (List.mem_of_getElem? (i := 979) (by decide +kernel)), by decide +kernel⟩
theorem ml_L_84 : am_T (.methodLink RL 84 yX8_firsts) := ⟨List.mem_append_right _ (List.mem_of_getElem? (i := 983) (by decide +kernel)), by decide +kernel⟩
theorem ml_L_89 : am_T (.methodLink RL 89 yX8_odds) := ⟨List.mem_append_right _ (List.mem_of_getElem? (i := 987) (by decide +kernel)), by decide +kernel⟩
theorem ml_X8_73 : am_T (.methodLink RX8 73 yX8_lost) := ⟨List.mem_append_right _ (List.mem_of_getElem? (i := 991) (by decide +kernel)), by decide +kernel⟩
theorem ml_X8_250 : am_T (.methodLink RX8 250 yX8_share) := ⟨List.mem_append_right _ (List.mem_of_getElem? (i := 995) (by decide +kernel)), by decide +kernel⟩
theorem ml_L_93 : am_T (.methodLink RL 93 yX8_sheet) := ⟨List.mem_append_right _ (List.mem_of_getElem? (i := 998) (by decide +kernel)), by decide +kernel⟩
theorem ml_L_97 : am_T (.methodLink RL 97 yX8_lose) := ⟨List.mem_append_right _ (List.mem_of_getElem? (i := 1002) (by decide +kernel)), by decide +kernel⟩
theorem ml_L_101 : am_T (.methodLink RL 101 yX8_put) := ⟨List.mem_append_right _ (List.mem_of_getElem? (i := 1006) (by decide +kernel)), by decide +kernel⟩
theorem ml_X8_256 : am_T (.methodLink RX8 256 yX8_noCell) := ⟨List.mem_append_right _ (List.mem_of_getElem? (i := 1010) (by decide +kernel)), by decide +kernel⟩
theorem ml_L_106 : am_T (.methodLink RL 106 yX8_cell) := ⟨List.mem_append_right _ (List.mem_of_getElem? (i := 1014) (by decide +kernel)), by decide +kernel⟩
theorem ml_X8_259 : am_T (.methodLink RX8 259 yX8_failedLong) := ⟨List.mem_append_right _ (List.mem_of_getElem? (i := 1018) (by decide +kernel)), by decide +kernel⟩
theorem ml_L_110 : am_T (.methodLink RL 110 yX8_copy) := ⟨List.mem_append_right _ (List.mem_of_getElem? (i := 1022) (by decide +kernel)), by decide +kernel⟩
theorem ml_L_114 : am_T (.methodLink RL 114 yX8_tell) := ⟨List.mem_append_right _ (List.mem_of_getElem? (i := 1026) (by decide +kernel)), by decide +kernel⟩
theorem ml_X8_266 : am_T (.methodLink RX8 266 yX8_traced) := ⟨List.mem_append_right _ (List.mem_of_getElem? (i := 1030) (by decide +kernel)), by decide +kernel⟩
theorem ml_L_118 : am_T (.methodLink RL 118 yX8_call) := ⟨List.mem_append_right _ (List.mem_of_getElem? (i := 1034) (by decide +kernel)), by decide +kernel⟩
theorem ml_L_122 : am_T (.methodLink RL 122 yX8_as) := ⟨List.mem_append_right _ (List.mem_of_getElem? (i := 1038) (by decide +kernel)), by decide +kernel⟩
theorem ml_L_127 : am_T (.methodLink RL 127 yX8_trace) := ⟨List.mem_append_right _ (List.mem_of_getElem? (i := 1042) (by decide +kernel)), by decide +kernel⟩
theorem ml_L_131 : am_T (.methodLink RL 131 yX8_fault) := ⟨List.mem_append_right _ (List.mem_of_getElem? (i := 1046) (by decide +kernel)), by decide +kernel⟩
theorem ml_L_135 : am_T (.methodLink RL 135 yX8_many) := ⟨List.mem_append_right _ (List.mem_of_getElem? (i := 1050) (by decide +kernel)), by decide +kernel⟩
theorem ml_X7_17 : .methodLinkNest RX7 17 yX4_init "DifferRings" ∈ am_nest := List.mem_of_getElem? (i := 0) rfl
theorem ml_X7_20 : .methodLinkNest RX7 20 yX3_init "DifferRings" ∈ am_nest := List.mem_of_getElem? (i := 1) rfl
theorem ml_X7_30 : .methodLinkNest RX7 30 yX0_init "DifferRings" ∈ am_nest := List.mem_of_getElem? (i := 2) rfl
theorem ml_X0_11 : .methodLinkNest RX0 11 yX3_init "DifferRings" ∈ am_nest := List.mem_of_getElem? (i := 3) rfl
theorem ml_X7_37 : .methodLinkNest RX7 37 yX5_init "DifferRings" ∈ am_nest := List.mem_of_getElem? (i := 4) rfl
theorem ml_X7_44 : .methodLinkNest RX7 44 yX2_init "DifferRings" ∈ am_nest := List.mem_of_getElem? (i := 5) rfl
theorem ml_X7_51 : .methodLinkNest RX7 51 yX1_init "DifferRings" ∈ am_nest := List.mem_of_getElem? (i := 6) rfl
theorem in_L : am_T (.initialized RL) := ⟨List.mem_append_right _ (List.mem_of_getElem? (i := 0) (by decide +kernel)), by decide +kernel⟩
theorem in_X7 : am_T (.initialized RX7) := ⟨List.mem_append_right _ (List.mem_of_getElem? (i := 1) (by decide +kernel)), by decide +kernel⟩
theorem in_X4 : am_T (.initialized RX4) := ⟨List.mem_append_right _ (List.mem_of_getElem? (i := 2) (by decide +kernel)), by decide +kernel⟩
theorem in_X3 : am_T (.initialized RX3) := ⟨List.mem_append_right _ (List.mem_of_getElem? (i := 3) (by decide +kernel)), by decide +kernel⟩
theorem in_X0 : am_T (.initialized RX0) := ⟨List.mem_append_right _ (List.mem_of_getElem? (i := 4) (by decide +kernel)), by decide +kernel⟩
theorem in_X5 : am_T (.initialized RX5) := ⟨List.mem_append_right _ (List.mem_of_getElem? (i := 5) (by decide +kernel)), by decide +kernel⟩
theorem in_X2 : am_T (.initialized RX2) := ⟨List.mem_append_right _ (List.mem_of_getElem? (i := 6) (by decide +kernel)), by decide +kernel⟩
theorem in_X1 : am_T (.initialized RX1) := ⟨List.mem_append_right _ (List.mem_of_getElem? (i := 7) (by decide +kernel)), by decide +kernel⟩
theorem in_X8 : am_T (.initialized RX8) := ⟨List.mem_append_right _ (List.mem_of_getElem? (i := 8) (by decide +kernel)), by decide +kernel⟩
theorem in_X6 : am_T (.initialized RX6) := ⟨List.mem_append_right _ (List.mem_of_getElem? (i := 9) (by decide +kernel)), by decide +kernel⟩
theorem in_J9 : am_T (.initialized RJ9) := ⟨List.mem_append_right _ (List.mem_of_getElem? (i := 10) (by decide +kernel)), by decide +kernel⟩
theorem in_J10 : am_T (.initialized RJ10) := ⟨List.mem_append_right _ (List.mem_of_getElem? (i := 11) (by decide +kernel)), by decide +kernel⟩
theorem in_J7 : am_T (.initialized RJ7) := ⟨List.mem_append_right _ (List.mem_of_getElem? (i := 12) (by decide +kernel)), by decide +kernel⟩
theorem in_J6 : am_T (.initialized RJ6) := ⟨List.mem_append_right _ (List.mem_of_getElem? (i := 13) (by decide +kernel)), by decide +kernel⟩
theorem in_System : am_T (.initialized "java/lang/System") := ⟨List.mem_append_right _ (List.mem_of_getElem? (i := 11) (by decide +kernel)), by decide +kernel⟩
theorem im_X7_init : am_T (.instanceMethod yX7_init) := ⟨List.mem_append_right _ (List.mem_of_getElem? (i := 17) (by decide +kernel)), by decide +kernel⟩
theorem im_Object : am_T (.instanceMethod objectInit) := ⟨List.mem_append_right _ (List.mem_of_getElem? (i := 20) (by decide +kernel)), by decide +kernel⟩
theorem im_X4_init : am_T (.instanceMethod yX4_init) := ⟨List.mem_append_right _ (List.mem_of_getElem? (i := 26) (by decide +kernel)), by decide +kernel⟩
theorem im_X3_init : am_T (.instanceMethod yX3_init) := ⟨List.mem_append_right _ (List.mem_of_getElem? (i := 44) (by decide +kernel)), by decide +kernel⟩
theorem im_X0_init : am_T (.instanceMethod yX0_init) := ⟨List.mem_append_right _ (List.mem_of_getElem? (i := 78) (by decide +kernel)), by decide +kernel⟩
theorem im_X5_init : am_T (.instanceMethod yX5_init) := ⟨List.mem_append_right _ (List.mem_of_getElem? (i := 137) (by decide +kernel)), by decide +kernel⟩
theorem im_X2_init : am_T (.instanceMethod yX2_init) := ⟨List.mem_append_right _ (List.mem_of_getElem? (i := 159) (by decide +kernel)), by decide +kernel⟩
theorem im_X1_init : am_T (.instanceMethod yX1_init) := ⟨List.mem_append_right _ (List.mem_of_getElem? (i := 179) (by decide +kernel)), by decide +kernel⟩
theorem im_X7_ring : am_T (.instanceMethod yX7_ring) := ⟨List.mem_append_right _ (List.mem_of_getElem? (i := 227) (by decide +kernel)), by decide +kernel⟩
theorem im_X4_faultAs : am_T (.instanceMethod yX4_faultAs) := ⟨List.mem_append_right _ (List.mem_of_getElem? (i := 237) (by decide +kernel)), by decide +kernel⟩
theorem im_X4_hasNothing : am_T (.instanceMethod yX4_hasNothing) := ⟨List.mem_append_right _ (List.mem_of_getElem? (i := 241) (by decide +kernel)), by decide +kernel⟩
theorem im_X4_faultOf : am_T (.instanceMethod yX4_faultOf) := ⟨List.mem_append_right _ (List.mem_of_getElem? (i := 245) (by decide +kernel)), by decide +kernel⟩
theorem im_X4_spans : am_T (.instanceMethod yX4_spans) := ⟨List.mem_append_right _ (List.mem_of_getElem? (i := 250) (by decide +kernel)), by decide +kernel⟩
theorem im_X7_answerOfFault : am_T (.instanceMethod yX7_answerOfFault) := ⟨List.mem_append_right _ (List.mem_of_getElem? (i := 254) (by decide +kernel)), by decide +kernel⟩
theorem im_X4_at : am_T (.instanceMethod yX4_at) := ⟨List.mem_append_right _ (List.mem_of_getElem? (i := 260) (by decide +kernel)), by decide +kernel⟩
end
section
theorem im_X0_forget : am_T (.instanceMethod yX0_forget) := ⟨List.mem_append_right _ (List.mem_of_getElem? (i := 276) (by decide +kernel)), by decide +kernel⟩
theorem im_X5_forget : am_T (.instanceMethod yX5_forget) := ⟨List.mem_append_right _ (List.mem_of_getElem? (i := 280) (by decide +kernel)), by decide +kernel⟩
theorem im_X7_ofPlace : am_T (.instanceMethod yX7_ofPlace) := ⟨List.mem_append_right _ (List.mem_of_getElem? (i := 284) (by decide +kernel)), by decide +kernel⟩
theorem im_X3_has : am_T (.instanceMethod yX3_has) := ⟨List.mem_append_right _ (List.mem_of_getElem? (i := 288) (by decide +kernel)), by decide +kernel⟩
theorem im_X3_stepped : am_T (.instanceMethod yX3_stepped) := ⟨List.mem_append_right _ (List.mem_of_getElem? (i := 292) (by decide +kernel)), by decide +kernel⟩
theorem im_X3_howFar : am_T (.instanceMethod yX3_howFar) := ⟨List.mem_append_right _ (List.mem_of_getElem? (i := 297) (by decide +kernel)), by decide +kernel⟩
theorem im_X7_write : am_T (.instanceMethod yX7_write) := ⟨List.mem_append_right _ (List.mem_of_getElem? (i := 303) (by decide +kernel)), by decide +kernel⟩
theorem im_X3_isNumber : am_T (.instanceMethod yX3_isNumber) := ⟨List.mem_append_right _ (List.mem_of_getElem? (i := 307) (by decide +kernel)), by decide +kernel⟩
theorem im_X7_steps : am_T (.instanceMethod yX7_steps) := ⟨List.mem_append_right _ (List.mem_of_getElem? (i := 311) (by decide +kernel)), by decide +kernel⟩
theorem im_X3_isNone : am_T (.instanceMethod yX3_isNone) := ⟨List.mem_append_right _ (List.mem_of_getElem? (i := 315) (by decide +kernel)), by decide +kernel⟩
theorem im_X3_go : am_T (.instanceMethod yX3_go) := ⟨List.mem_append_right _ (List.mem_of_getElem? (i := 319) (by decide +kernel)), by decide +kernel⟩
theorem im_X3_zeros : am_T (.instanceMethod yX3_zeros) := ⟨List.mem_append_right _ (List.mem_of_getElem? (i := 327) (by decide +kernel)), by decide +kernel⟩
theorem im_X7_after : am_T (.instanceMethod yX7_after) := ⟨List.mem_append_right _ (List.mem_of_getElem? (i := 331) (by decide +kernel)), by decide +kernel⟩
theorem im_X0_workOut : am_T (.instanceMethod yX0_workOut) := ⟨List.mem_append_right _ (List.mem_of_getElem? (i := 336) (by decide +kernel)), by decide +kernel⟩
theorem im_X3_takeKinds : am_T (.instanceMethod yX3_takeKinds) := ⟨List.mem_append_right _ (List.mem_of_getElem? (i := 341) (by decide +kernel)), by decide +kernel⟩
theorem im_X0_makeRoom : am_T (.instanceMethod yX0_makeRoom) := ⟨List.mem_append_right _ (List.mem_of_getElem? (i := 346) (by decide +kernel)), by decide +kernel⟩
theorem im_X0_findNext : am_T (.instanceMethod yX0_findNext) := ⟨List.mem_append_right _ (List.mem_of_getElem? (i := 350) (by decide +kernel)), by decide +kernel⟩
theorem im_X3_takeFirstRow : am_T (.instanceMethod yX3_takeFirstRow) := ⟨List.mem_append_right _ (List.mem_of_getElem? (i := 356) (by decide +kernel)), by decide +kernel⟩
theorem im_X3_steppedCode : am_T (.instanceMethod yX3_steppedCode) := ⟨List.mem_append_right _ (List.mem_of_getElem? (i := 361) (by decide +kernel)), by decide +kernel⟩
theorem im_X3_takeNextRow : am_T (.instanceMethod yX3_takeNextRow) := ⟨List.mem_append_right _ (List.mem_of_getElem? (i := 365) (by decide +kernel)), by decide +kernel⟩
theorem im_X0_orderThoseThatDoNotComeBack : am_T (.instanceMethod yX0_orderThoseThatDoNotComeBack) := ⟨List.mem_append_right _ (List.mem_of_getElem? (i := 370) (by decide +kernel)), by decide +kernel⟩
theorem im_X0_findRounds : am_T (.instanceMethod yX0_findRounds) := ⟨List.mem_append_right _ (List.mem_of_getElem? (i := 374) (by decide +kernel)), by decide +kernel⟩
theorem im_X0_markRound : am_T (.instanceMethod yX0_markRound) := ⟨List.mem_append_right _ (List.mem_of_getElem? (i := 378) (by decide +kernel)), by decide +kernel⟩
theorem im_X0_findTails : am_T (.instanceMethod yX0_findTails) := ⟨List.mem_append_right _ (List.mem_of_getElem? (i := 382) (by decide +kernel)), by decide +kernel⟩
theorem im_X0_sumUp : am_T (.instanceMethod yX0_sumUp) := ⟨List.mem_append_right _ (List.mem_of_getElem? (i := 386) (by decide +kernel)), by decide +kernel⟩
theorem im_X0_goesOut : am_T (.instanceMethod yX0_goesOut) := ⟨List.mem_append_right _ (List.mem_of_getElem? (i := 389) (by decide +kernel)), by decide +kernel⟩
theorem im_X0_isRow : am_T (.instanceMethod yX0_isRow) := ⟨List.mem_append_right _ (List.mem_of_getElem? (i := 394) (by decide +kernel)), by decide +kernel⟩
theorem im_X3_code : am_T (.instanceMethod yX3_code) := ⟨List.mem_append_right _ (List.mem_of_getElem? (i := 397) (by decide +kernel)), by decide +kernel⟩
theorem im_X0_behind : am_T (.instanceMethod yX0_behind) := ⟨List.mem_append_right _ (List.mem_of_getElem? (i := 401) (by decide +kernel)), by decide +kernel⟩
theorem im_X0_tailOf : am_T (.instanceMethod yX0_tailOf) := ⟨List.mem_append_right _ (List.mem_of_getElem? (i := 405) (by decide +kernel)), by decide +kernel⟩
theorem im_X0_roundOf : am_T (.instanceMethod yX0_roundOf) := ⟨List.mem_append_right _ (List.mem_of_getElem? (i := 409) (by decide +kernel)), by decide +kernel⟩
theorem im_X0_nextOf : am_T (.instanceMethod yX0_nextOf) := ⟨List.mem_append_right _ (List.mem_of_getElem? (i := 413) (by decide +kernel)), by decide +kernel⟩
theorem im_X0_numberIn : am_T (.instanceMethod yX0_numberIn) := ⟨List.mem_append_right _ (List.mem_of_getElem? (i := 417) (by decide +kernel)), by decide +kernel⟩
theorem im_X7_day : am_T (.instanceMethod yX7_day) := ⟨List.mem_append_right _ (List.mem_of_getElem? (i := 421) (by decide +kernel)), by decide +kernel⟩
theorem im_X3_takeAll : am_T (.instanceMethod yX3_takeAll) := ⟨List.mem_append_right _ (List.mem_of_getElem? (i := 435) (by decide +kernel)), by decide +kernel⟩
theorem im_X1_play : am_T (.instanceMethod yX1_play) := ⟨List.mem_append_right _ (List.mem_of_getElem? (i := 440) (by decide +kernel)), by decide +kernel⟩
theorem im_X1_canDo : am_T (.instanceMethod yX1_canDo) := ⟨List.mem_append_right _ (List.mem_of_getElem? (i := 445) (by decide +kernel)), by decide +kernel⟩
theorem im_X3_isOut : am_T (.instanceMethod yX3_isOut) := ⟨List.mem_append_right _ (List.mem_of_getElem? (i := 451) (by decide +kernel)), by decide +kernel⟩
theorem im_X7_ofDay : am_T (.instanceMethod yX7_ofDay) := ⟨List.mem_append_right _ (List.mem_of_getElem? (i := 457) (by decide +kernel)), by decide +kernel⟩
theorem im_X3_total : am_T (.instanceMethod yX3_total) := ⟨List.mem_append_right _ (List.mem_of_getElem? (i := 460) (by decide +kernel)), by decide +kernel⟩
theorem im_X7_now : am_T (.instanceMethod yX7_now) := ⟨List.mem_append_right _ (List.mem_of_getElem? (i := 465) (by decide +kernel)), by decide +kernel⟩
theorem im_X7_from : am_T (.instanceMethod yX7_from) := ⟨List.mem_append_right _ (List.mem_of_getElem? (i := 471) (by decide +kernel)), by decide +kernel⟩
theorem im_X0_comersOf : am_T (.instanceMethod yX0_comersOf) := ⟨List.mem_append_right _ (List.mem_of_getElem? (i := 475) (by decide +kernel)), by decide +kernel⟩
theorem im_X0_firstComerOf : am_T (.instanceMethod yX0_firstComerOf) := ⟨List.mem_append_right _ (List.mem_of_getElem? (i := 479) (by decide +kernel)), by decide +kernel⟩
theorem im_X7_rows : am_T (.instanceMethod yX7_rows) := ⟨List.mem_append_right _ (List.mem_of_getElem? (i := 483) (by decide +kernel)), by decide +kernel⟩
theorem im_X7_longest : am_T (.instanceMethod yX7_longest) := ⟨List.mem_append_right _ (List.mem_of_getElem? (i := 487) (by decide +kernel)), by decide +kernel⟩
theorem im_X7_meet : am_T (.instanceMethod yX7_meet) := ⟨List.mem_append_right _ (List.mem_of_getElem? (i := 491) (by decide +kernel)), by decide +kernel⟩
theorem im_X3_takeRow : am_T (.instanceMethod yX3_takeRow) := ⟨List.mem_append_right _ (List.mem_of_getElem? (i := 495) (by decide +kernel)), by decide +kernel⟩
theorem im_X0_meeting : am_T (.instanceMethod yX0_meeting) := ⟨List.mem_append_right _ (List.mem_of_getElem? (i := 501) (by decide +kernel)), by decide +kernel⟩
theorem im_X7_few : am_T (.instanceMethod yX7_few) := ⟨List.mem_append_right _ (List.mem_of_getElem? (i := 505) (by decide +kernel)), by decide +kernel⟩
theorem im_X0_leastSetToGoOut : am_T (.instanceMethod yX0_leastSetToGoOut) := ⟨List.mem_append_right _ (List.mem_of_getElem? (i := 509) (by decide +kernel)), by decide +kernel⟩
theorem im_X0_unlikePlaces : am_T (.instanceMethod yX0_unlikePlaces) := ⟨List.mem_append_right _ (List.mem_of_getElem? (i := 514) (by decide +kernel)), by decide +kernel⟩
theorem im_X7_reading : am_T (.instanceMethod yX7_reading) := ⟨List.mem_append_right _ (List.mem_of_getElem? (i := 524) (by decide +kernel)), by decide +kernel⟩
theorem im_X2_keep : am_T (.instanceMethod yX2_keep) := ⟨List.mem_append_right _ (List.mem_of_getElem? (i := 531) (by decide +kernel)), by decide +kernel⟩
theorem im_X7_back : am_T (.instanceMethod yX7_back) := ⟨List.mem_append_right _ (List.mem_of_getElem? (i := 535) (by decide +kernel)), by decide +kernel⟩
theorem im_X7_kinds : am_T (.instanceMethod yX7_kinds) := ⟨List.mem_append_right _ (List.mem_of_getElem? (i := 539) (by decide +kernel)), by decide +kernel⟩
theorem im_X2_areSo : am_T (.instanceMethod yX2_areSo) := ⟨List.mem_append_right _ (List.mem_of_getElem? (i := 543) (by decide +kernel)), by decide +kernel⟩
theorem im_X2_lastTime : am_T (.instanceMethod yX2_lastTime) := ⟨List.mem_append_right _ (List.mem_of_getElem? (i := 548) (by decide +kernel)), by decide +kernel⟩
theorem im_X2_areSoAt : am_T (.instanceMethod yX2_areSoAt) := ⟨List.mem_append_right _ (List.mem_of_getElem? (i := 555) (by decide +kernel)), by decide +kernel⟩
theorem im_X7_firsts : am_T (.instanceMethod yX7_firsts) := ⟨List.mem_append_right _ (List.mem_of_getElem? (i := 559) (by decide +kernel)), by decide +kernel⟩
theorem im_X7_odds : am_T (.instanceMethod yX7_odds) := ⟨List.mem_append_right _ (List.mem_of_getElem? (i := 563) (by decide +kernel)), by decide +kernel⟩
theorem im_X5_goTo : am_T (.instanceMethod yX5_goTo) := ⟨List.mem_append_right _ (List.mem_of_getElem? (i := 568) (by decide +kernel)), by decide +kernel⟩
theorem im_X5_begin : am_T (.instanceMethod yX5_begin) := ⟨List.mem_append_right _ (List.mem_of_getElem? (i := 573) (by decide +kernel)), by decide +kernel⟩
theorem im_X5_stepAll : am_T (.instanceMethod yX5_stepAll) := ⟨List.mem_append_right _ (List.mem_of_getElem? (i := 577) (by decide +kernel)), by decide +kernel⟩
theorem im_X5_howMany : am_T (.instanceMethod yX5_howMany) := ⟨List.mem_append_right _ (List.mem_of_getElem? (i := 581) (by decide +kernel)), by decide +kernel⟩
theorem im_X7_sheet : am_T (.instanceMethod yX7_sheet) := ⟨List.mem_append_right _ (List.mem_of_getElem? (i := 589) (by decide +kernel)), by decide +kernel⟩
theorem im_X4_renew : am_T (.instanceMethod yX4_renew) := ⟨List.mem_append_right _ (List.mem_of_getElem? (i := 593) (by decide +kernel)), by decide +kernel⟩
theorem im_X7_lose : am_T (.instanceMethod yX7_lose) := ⟨List.mem_append_right _ (List.mem_of_getElem? (i := 598) (by decide +kernel)), by decide +kernel⟩
theorem im_X4_drop : am_T (.instanceMethod yX4_drop) := ⟨List.mem_append_right _ (List.mem_of_getElem? (i := 603) (by decide +kernel)), by decide +kernel⟩
theorem im_X7_put : am_T (.instanceMethod yX7_put) := ⟨List.mem_append_right _ (List.mem_of_getElem? (i := 607) (by decide +kernel)), by decide +kernel⟩
theorem im_X4_change : am_T (.instanceMethod yX4_change) := ⟨List.mem_append_right _ (List.mem_of_getElem? (i := 612) (by decide +kernel)), by decide +kernel⟩
theorem im_X4_cut : am_T (.instanceMethod yX4_cut) := ⟨List.mem_append_right _ (List.mem_of_getElem? (i := 617) (by decide +kernel)), by decide +kernel⟩
theorem im_X7_cell : am_T (.instanceMethod yX7_cell) := ⟨List.mem_append_right _ (List.mem_of_getElem? (i := 620) (by decide +kernel)), by decide +kernel⟩
theorem im_X7_copy : am_T (.instanceMethod yX7_copy) := ⟨List.mem_append_right _ (List.mem_of_getElem? (i := 625) (by decide +kernel)), by decide +kernel⟩
theorem im_X4_faultOfCopy : am_T (.instanceMethod yX4_faultOfCopy) := ⟨List.mem_append_right _ (List.mem_of_getElem? (i := 629) (by decide +kernel)), by decide +kernel⟩
theorem im_X7_tell : am_T (.instanceMethod yX7_tell) := ⟨List.mem_append_right _ (List.mem_of_getElem? (i := 634) (by decide +kernel)), by decide +kernel⟩
theorem im_X7_tellPlain : am_T (.instanceMethod yX7_tellPlain) := ⟨List.mem_append_right _ (List.mem_of_getElem? (i := 639) (by decide +kernel)), by decide +kernel⟩
theorem im_X7_leave : am_T (.instanceMethod yX7_leave) := ⟨List.mem_append_right _ (List.mem_of_getElem? (i := 643) (by decide +kernel)), by decide +kernel⟩
theorem im_X7_tellFar : am_T (.instanceMethod yX7_tellFar) := ⟨List.mem_append_right _ (List.mem_of_getElem? (i := 647) (by decide +kernel)), by decide +kernel⟩
theorem im_X7_tellMixed : am_T (.instanceMethod yX7_tellMixed) := ⟨List.mem_append_right _ (List.mem_of_getElem? (i := 651) (by decide +kernel)), by decide +kernel⟩
theorem im_X7_call : am_T (.instanceMethod yX7_call) := ⟨List.mem_append_right _ (List.mem_of_getElem? (i := 654) (by decide +kernel)), by decide +kernel⟩
theorem im_X7_as : am_T (.instanceMethod yX7_as) := ⟨List.mem_append_right _ (List.mem_of_getElem? (i := 658) (by decide +kernel)), by decide +kernel⟩
theorem im_X7_trace : am_T (.instanceMethod yX7_trace) := ⟨List.mem_append_right _ (List.mem_of_getElem? (i := 662) (by decide +kernel)), by decide +kernel⟩
theorem im_X7_fault : am_T (.instanceMethod yX7_fault) := ⟨List.mem_append_right _ (List.mem_of_getElem? (i := 666) (by decide +kernel)), by decide +kernel⟩
theorem im_X7_many : am_T (.instanceMethod yX7_many) := ⟨List.mem_append_right _ (List.mem_of_getElem? (i := 670) (by decide +kernel)), by decide +kernel⟩
theorem im_X8_init : am_T (.instanceMethod yX8_init) := ⟨List.mem_append_right _ (List.mem_of_getElem? (i := 676) (by decide +kernel)), by decide +kernel⟩
theorem im_X8_ring : am_T (.instanceMethod yX8_ring) := ⟨List.mem_append_right _ (List.mem_of_getElem? (i := 777) (by decide +kernel)), by decide +kernel⟩
theorem im_X8_refused : am_T (.instanceMethod yX8_refused) := ⟨List.mem_append_right _ (List.mem_of_getElem? (i := 789) (by decide +kernel)), by decide +kernel⟩
theorem im_X8_cellsBarred : am_T (.instanceMethod yX8_cellsBarred) := ⟨List.mem_append_right _ (List.mem_of_getElem? (i := 794) (by decide +kernel)), by decide +kernel⟩
theorem im_X8_failed : am_T (.instanceMethod yX8_failed) := ⟨List.mem_append_right _ (List.mem_of_getElem? (i := 798) (by decide +kernel)), by decide +kernel⟩
theorem im_X8_readsRing : am_T (.instanceMethod yX8_readsRing) := ⟨List.mem_append_right _ (List.mem_of_getElem? (i := 805) (by decide +kernel)), by decide +kernel⟩
theorem im_X8_codeAt : am_T (.instanceMethod yX8_codeAt) := ⟨List.mem_append_right _ (List.mem_of_getElem? (i := 809) (by decide +kernel)), by decide +kernel⟩
theorem im_X8_readsPlace : am_T (.instanceMethod yX8_readsPlace) := ⟨List.mem_append_right _ (List.mem_of_getElem? (i := 814) (by decide +kernel)), by decide +kernel⟩
theorem im_X8_ofPlace : am_T (.instanceMethod yX8_ofPlace) := ⟨List.mem_append_right _ (List.mem_of_getElem? (i := 817) (by decide +kernel)), by decide +kernel⟩
theorem im_X8_noPlace : am_T (.instanceMethod yX8_noPlace) := ⟨List.mem_append_right _ (List.mem_of_getElem? (i := 822) (by decide +kernel)), by decide +kernel⟩
theorem im_X8_takesNow : am_T (.instanceMethod yX8_takesNow) := ⟨List.mem_append_right _ (List.mem_of_getElem? (i := 826) (by decide +kernel)), by decide +kernel⟩
theorem im_X8_becomes : am_T (.instanceMethod yX8_becomes) := ⟨List.mem_append_right _ (List.mem_of_getElem? (i := 830) (by decide +kernel)), by decide +kernel⟩
theorem im_X8_write : am_T (.instanceMethod yX8_write) := ⟨List.mem_append_right _ (List.mem_of_getElem? (i := 836) (by decide +kernel)), by decide +kernel⟩
theorem im_X8_isNumber : am_T (.instanceMethod yX8_isNumber) := ⟨List.mem_append_right _ (List.mem_of_getElem? (i := 841) (by decide +kernel)), by decide +kernel⟩
theorem im_X8_steps : am_T (.instanceMethod yX8_steps) := ⟨List.mem_append_right _ (List.mem_of_getElem? (i := 844) (by decide +kernel)), by decide +kernel⟩
theorem im_X8_doesSteps : am_T (.instanceMethod yX8_doesSteps) := ⟨List.mem_append_right _ (List.mem_of_getElem? (i := 850) (by decide +kernel)), by decide +kernel⟩
theorem im_X8_stepsOnce : am_T (.instanceMethod yX8_stepsOnce) := ⟨List.mem_append_right _ (List.mem_of_getElem? (i := 854) (by decide +kernel)), by decide +kernel⟩
theorem im_X8_zeros : am_T (.instanceMethod yX8_zeros) := ⟨List.mem_append_right _ (List.mem_of_getElem? (i := 858) (by decide +kernel)), by decide +kernel⟩
theorem im_X8_after : am_T (.instanceMethod yX8_after) := ⟨List.mem_append_right _ (List.mem_of_getElem? (i := 861) (by decide +kernel)), by decide +kernel⟩
theorem im_X8_rowNow : am_T (.instanceMethod yX8_rowNow) := ⟨List.mem_append_right _ (List.mem_of_getElem? (i := 867) (by decide +kernel)), by decide +kernel⟩
theorem im_X8_rowAt : am_T (.instanceMethod yX8_rowAt) := ⟨List.mem_append_right _ (List.mem_of_getElem? (i := 871) (by decide +kernel)), by decide +kernel⟩
theorem im_X8_tables : am_T (.instanceMethod yX8_tables) := ⟨List.mem_append_right _ (List.mem_of_getElem? (i := 875) (by decide +kernel)), by decide +kernel⟩
theorem im_X8_allRows : am_T (.instanceMethod yX8_allRows) := ⟨List.mem_append_right _ (List.mem_of_getElem? (i := 879) (by decide +kernel)), by decide +kernel⟩
theorem im_X8_takesRow : am_T (.instanceMethod yX8_takesRow) := ⟨List.mem_append_right _ (List.mem_of_getElem? (i := 883) (by decide +kernel)), by decide +kernel⟩
theorem im_X8_takesAway : am_T (.instanceMethod yX8_takesAway) := ⟨List.mem_append_right _ (List.mem_of_getElem? (i := 887) (by decide +kernel)), by decide +kernel⟩
theorem im_X8_roundOf : am_T (.instanceMethod yX8_roundOf) := ⟨List.mem_append_right _ (List.mem_of_getElem? (i := 891) (by decide +kernel)), by decide +kernel⟩
theorem im_X8_behind : am_T (.instanceMethod yX8_behind) := ⟨List.mem_append_right _ (List.mem_of_getElem? (i := 895) (by decide +kernel)), by decide +kernel⟩
theorem im_X8_roundFrom : am_T (.instanceMethod yX8_roundFrom) := ⟨List.mem_append_right _ (List.mem_of_getElem? (i := 899) (by decide +kernel)), by decide +kernel⟩
theorem im_X8_day : am_T (.instanceMethod yX8_day) := ⟨List.mem_append_right _ (List.mem_of_getElem? (i := 902) (by decide +kernel)), by decide +kernel⟩
theorem im_X8_dayOf : am_T (.instanceMethod yX8_dayOf) := ⟨List.mem_append_right _ (List.mem_of_getElem? (i := 912) (by decide +kernel)), by decide +kernel⟩
theorem im_X8_doesPair : am_T (.instanceMethod yX8_doesPair) := ⟨List.mem_append_right _ (List.mem_of_getElem? (i := 916) (by decide +kernel)), by decide +kernel⟩
theorem im_X8_sumNow : am_T (.instanceMethod yX8_sumNow) := ⟨List.mem_append_right _ (List.mem_of_getElem? (i := 921) (by decide +kernel)), by decide +kernel⟩
theorem im_X8_tailNow : am_T (.instanceMethod yX8_tailNow) := ⟨List.mem_append_right _ (List.mem_of_getElem? (i := 925) (by decide +kernel)), by decide +kernel⟩
theorem im_X8_now : am_T (.instanceMethod yX8_now) := ⟨List.mem_append_right _ (List.mem_of_getElem? (i := 928) (by decide +kernel)), by decide +kernel⟩
theorem im_X8_from : am_T (.instanceMethod yX8_from) := ⟨List.mem_append_right _ (List.mem_of_getElem? (i := 932) (by decide +kernel)), by decide +kernel⟩
theorem im_X8_rows : am_T (.instanceMethod yX8_rows) := ⟨List.mem_append_right _ (List.mem_of_getElem? (i := 937) (by decide +kernel)), by decide +kernel⟩
theorem im_X8_rounds : am_T (.instanceMethod yX8_rounds) := ⟨List.mem_append_right _ (List.mem_of_getElem? (i := 942) (by decide +kernel)), by decide +kernel⟩
theorem im_X8_longest : am_T (.instanceMethod yX8_longest) := ⟨List.mem_append_right _ (List.mem_of_getElem? (i := 945) (by decide +kernel)), by decide +kernel⟩
theorem im_X8_meet : am_T (.instanceMethod yX8_meet) := ⟨List.mem_append_right _ (List.mem_of_getElem? (i := 949) (by decide +kernel)), by decide +kernel⟩
theorem im_X8_few : am_T (.instanceMethod yX8_few) := ⟨List.mem_append_right _ (List.mem_of_getElem? (i := 953) (by decide +kernel)), by decide +kernel⟩
theorem im_X8_unlikeNow : am_T (.instanceMethod yX8_unlikeNow) := ⟨List.mem_append_right _ (List.mem_of_getElem? (i := 958) (by decide +kernel)), by decide +kernel⟩
theorem im_X8_reading : am_T (.instanceMethod yX8_reading) := ⟨List.mem_append_right _ (List.mem_of_getElem? (i := 964) (by decide +kernel)), by decide +kernel⟩
theorem im_X8_back : am_T (.instanceMethod yX8_back) := ⟨List.mem_append_right _ (List.mem_of_getElem? (i := 968) (by decide +kernel)), by decide +kernel⟩
theorem im_X8_kinds : am_T (.instanceMethod yX8_kinds) := ⟨List.mem_append_right _ (List.mem_of_getElem? (i := 972) (by decide +kernel)), by decide +kernel⟩
theorem im_X8_areSo : am_T (.instanceMethod yX8_areSo) := ⟨List.mem_append_right _ (List.mem_of_getElem? (i := 977) (by decide +kernel)), by decide +kernel⟩
theorem im_X8_isSo : am_T (.instanceMethod yX8_isSo) := ⟨List.mem_append_right _ (List.mem_of_getElem? (i := 981) (by decide +kernel)), by decide +kernel⟩
theorem im_X8_firsts : am_T (.instanceMethod yX8_firsts) := ⟨List.mem_append_right _ (List.mem_of_getElem? (i := 984) (by decide +kernel)), by decide +kernel⟩
theorem im_X8_odds : am_T (.instanceMethod yX8_odds) := ⟨List.mem_append_right _ (List.mem_of_getElem? (i := 988) (by decide +kernel)), by decide +kernel⟩
theorem im_X8_sheet : am_T (.instanceMethod yX8_sheet) := ⟨List.mem_append_right _ (List.mem_of_getElem? (i := 999) (by decide +kernel)), by decide +kernel⟩
theorem im_X8_lose : am_T (.instanceMethod yX8_lose) := ⟨List.mem_append_right _ (List.mem_of_getElem? (i := 1003) (by decide +kernel)), by decide +kernel⟩
theorem im_X8_put : am_T (.instanceMethod yX8_put) := ⟨List.mem_append_right _ (List.mem_of_getElem? (i := 1007) (by decide +kernel)), by decide +kernel⟩
theorem im_X8_noCell : am_T (.instanceMethod yX8_noCell) := ⟨List.mem_append_right _ (List.mem_of_getElem? (i := 1012) (by decide +kernel)), by decide +kernel⟩
theorem im_X8_cell : am_T (.instanceMethod yX8_cell) := ⟨List.mem_append_right _ (List.mem_of_getElem? (i := 1015) (by decide +kernel)), by decide +kernel⟩
theorem im_X8_failedLong : am_T (.instanceMethod yX8_failedLong) := ⟨List.mem_append_right _ (List.mem_of_getElem? (i := 1020) (by decide +kernel)), by decide +kernel⟩
theorem im_X8_copy : am_T (.instanceMethod yX8_copy) := ⟨List.mem_append_right _ (List.mem_of_getElem? (i := 1023) (by decide +kernel)), by decide +kernel⟩
theorem im_X8_tell : am_T (.instanceMethod yX8_tell) := ⟨List.mem_append_right _ (List.mem_of_getElem? (i := 1027) (by decide +kernel)), by decide +kernel⟩
theorem im_X8_traced : am_T (.instanceMethod yX8_traced) := ⟨List.mem_append_right _ (List.mem_of_getElem? (i := 1032) (by decide +kernel)), by decide +kernel⟩
theorem im_X8_call : am_T (.instanceMethod yX8_call) := ⟨List.mem_append_right _ (List.mem_of_getElem? (i := 1035) (by decide +kernel)), by decide +kernel⟩
theorem im_X8_as : am_T (.instanceMethod yX8_as) := ⟨List.mem_append_right _ (List.mem_of_getElem? (i := 1039) (by decide +kernel)), by decide +kernel⟩
theorem im_X8_trace : am_T (.instanceMethod yX8_trace) := ⟨List.mem_append_right _ (List.mem_of_getElem? (i := 1043) (by decide +kernel)), by decide +kernel⟩
theorem im_X8_fault : am_T (.instanceMethod yX8_fault) := ⟨List.mem_append_right _ (List.mem_of_getElem? (i := 1047) (by decide +kernel)), by decide +kernel⟩
theorem im_X8_many : am_T (.instanceMethod yX8_many) := ⟨List.mem_append_right _ (List.mem_of_getElem? (i := 1051) (by decide +kernel)), by decide +kernel⟩
theorem sm_X7_isSheet : am_T (.static yX7_isSheet) := ⟨List.mem_append_right _ (List.mem_of_getElem? (i := 231) (by decide +kernel)), by decide +kernel⟩
theorem sm_X7_isLane : am_T (.static yX7_isLane) := ⟨List.mem_append_right _ (List.mem_of_getElem? (i := 234) (by decide +kernel)), by decide +kernel⟩
theorem sm_X6_firstFault : am_T (.static yX6_firstFault) := ⟨List.mem_append_right _ (List.mem_of_getElem? (i := 257) (by decide +kernel)), by decide +kernel⟩
theorem sm_X6_goesOn : am_T (.static yX6_goesOn) := ⟨List.mem_append_right _ (List.mem_of_getElem? (i := 264) (by decide +kernel)), by decide +kernel⟩
theorem sm_X6_kindOf : am_T (.static yX6_kindOf) := ⟨List.mem_append_right _ (List.mem_of_getElem? (i := 267) (by decide +kernel)), by decide +kernel⟩
theorem sm_X6_take : am_T (.static yX6_take) := ⟨List.mem_append_right _ (List.mem_of_getElem? (i := 270) (by decide +kernel)), by decide +kernel⟩
theorem sm_J9_min_7cf53 : am_T (.static yJ9_min_7cf53) := ⟨List.mem_append_right _ (List.mem_of_getElem? (i := 273) (by decide +kernel)), by decide +kernel⟩
theorem sm_J9_abs_0f7a4 : am_T (.static yJ9_abs_0f7a4) := ⟨List.mem_append_right _ (List.mem_of_getElem? (i := 300) (by decide +kernel)), by decide +kernel⟩
theorem sm_arraycopy : am_T (.static arraycopyName) := ⟨List.mem_append_right _ (List.mem_of_getElem? (i := 324) (by decide +kernel)), by decide +kernel⟩
theorem sm_J7_fill_53178 : am_T (.static yJ7_fill_53178) := ⟨List.mem_append_right _ (List.mem_of_getElem? (i := 353) (by decide +kernel)), by decide +kernel⟩
theorem sm_X7_isOfDay : am_T (.static yX7_isOfDay) := ⟨List.mem_append_right _ (List.mem_of_getElem? (i := 425) (by decide +kernel)), by decide +kernel⟩
theorem sm_X1_areActs : am_T (.static yX1_areActs) := ⟨List.mem_append_right _ (List.mem_of_getElem? (i := 428) (by decide +kernel)), by decide +kernel⟩
theorem sm_X1_isAct : am_T (.static yX1_isAct) := ⟨List.mem_append_right _ (List.mem_of_getElem? (i := 432) (by decide +kernel)), by decide +kernel⟩
theorem sm_J6_bitCount_0f7a4 : am_T (.static yJ6_bitCount_0f7a4) := ⟨List.mem_append_right _ (List.mem_of_getElem? (i := 517) (by decide +kernel)), by decide +kernel⟩
theorem sm_X7_isReadable : am_T (.static yX7_isReadable) := ⟨List.mem_append_right _ (List.mem_of_getElem? (i := 528) (by decide +kernel)), by decide +kernel⟩
theorem sm_J9_max_7cf53 : am_T (.static yJ9_max_7cf53) := ⟨List.mem_append_right _ (List.mem_of_getElem? (i := 551) (by decide +kernel)), by decide +kernel⟩
theorem sm_X7_commonDivisor : am_T (.static yX7_commonDivisor) := ⟨List.mem_append_right _ (List.mem_of_getElem? (i := 586) (by decide +kernel)), by decide +kernel⟩
theorem sm_X8_noSheet : am_T (.static yX8_noSheet) := ⟨List.mem_append_right _ (List.mem_of_getElem? (i := 781) (by decide +kernel)), by decide +kernel⟩
theorem sm_X8_in : am_T (.static yX8_in) := ⟨List.mem_append_right _ (List.mem_of_getElem? (i := 785) (by decide +kernel)), by decide +kernel⟩
theorem sm_X8_isBeyond : am_T (.static yX8_isBeyond) := ⟨List.mem_append_right _ (List.mem_of_getElem? (i := 801) (by decide +kernel)), by decide +kernel⟩
theorem sm_X8_apart : am_T (.static yX8_apart) := ⟨List.mem_append_right _ (List.mem_of_getElem? (i := 833) (by decide +kernel)), by decide +kernel⟩
theorem sm_X8_bits : am_T (.static yX8_bits) := ⟨List.mem_append_right _ (List.mem_of_getElem? (i := 961) (by decide +kernel)), by decide +kernel⟩
theorem sm_X8_lost : am_T (.static yX8_lost) := ⟨List.mem_append_right _ (List.mem_of_getElem? (i := 992) (by decide +kernel)), by decide +kernel⟩
theorem sm_X8_share : am_T (.static yX8_share) := ⟨List.mem_append_right _ (List.mem_of_getElem? (i := 996) (by decide +kernel)), by decide +kernel⟩
theorem nm_arraycopy : am_T (.native arraycopyName) := ⟨List.mem_append_right _ (List.mem_of_getElem? (i := 325) (by decide +kernel)), by decide +kernel⟩
theorem co_Object : am_T (.code objectInit ⟨#[0xb1]⟩ 1 none) := ⟨List.mem_append_right _ (List.mem_of_getElem? (i := 21) (by decide +kernel)), by decide +kernel⟩
theorem se_X7_ring : am_T (.selects RX7 yX7_ring yX7_ring) := ⟨List.mem_append_right _ (List.mem_of_getElem? (i := 228) (by decide +kernel)), by decide +kernel⟩
theorem se_X4_faultAs : am_T (.selects RX4 yX4_faultAs yX4_faultAs) := ⟨List.mem_append_right _ (List.mem_of_getElem? (i := 238) (by decide +kernel)), by decide +kernel⟩
theorem se_X4_hasNothing : am_T (.selects RX4 yX4_hasNothing yX4_hasNothing) := ⟨List.mem_append_right _ (List.mem_of_getElem? (i := 242) (by decide +kernel)), by decide +kernel⟩
theorem se_X4_faultOf : am_T (.selects RX4 yX4_faultOf yX4_faultOf) := ⟨List.mem_append_right _ (List.mem_of_getElem? (i := 246) (by decide +kernel)), by decide +kernel⟩
theorem se_X4_at : am_T (.selects RX4 yX4_at yX4_at) := ⟨List.mem_append_right _ (List.mem_of_getElem? (i := 261) (by decide +kernel)), by decide +kernel⟩
theorem se_X0_forget : am_T (.selects RX0 yX0_forget yX0_forget) := ⟨List.mem_append_right _ (List.mem_of_getElem? (i := 277) (by decide +kernel)), by decide +kernel⟩
theorem se_X5_forget : am_T (.selects RX5 yX5_forget yX5_forget) := ⟨List.mem_append_right _ (List.mem_of_getElem? (i := 281) (by decide +kernel)), by decide +kernel⟩
theorem se_X7_ofPlace : am_T (.selects RX7 yX7_ofPlace yX7_ofPlace) := ⟨List.mem_append_right _ (List.mem_of_getElem? (i := 285) (by decide +kernel)), by decide +kernel⟩
theorem se_X3_has : am_T (.selects RX3 yX3_has yX3_has) := ⟨List.mem_append_right _ (List.mem_of_getElem? (i := 289) (by decide +kernel)), by decide +kernel⟩
theorem se_X3_stepped : am_T (.selects RX3 yX3_stepped yX3_stepped) := ⟨List.mem_append_right _ (List.mem_of_getElem? (i := 293) (by decide +kernel)), by decide +kernel⟩
theorem se_X7_write : am_T (.selects RX7 yX7_write yX7_write) := ⟨List.mem_append_right _ (List.mem_of_getElem? (i := 304) (by decide +kernel)), by decide +kernel⟩
theorem se_X3_isNumber : am_T (.selects RX3 yX3_isNumber yX3_isNumber) := ⟨List.mem_append_right _ (List.mem_of_getElem? (i := 308) (by decide +kernel)), by decide +kernel⟩
theorem se_X7_steps : am_T (.selects RX7 yX7_steps yX7_steps) := ⟨List.mem_append_right _ (List.mem_of_getElem? (i := 312) (by decide +kernel)), by decide +kernel⟩
theorem se_X3_isNone : am_T (.selects RX3 yX3_isNone yX3_isNone) := ⟨List.mem_append_right _ (List.mem_of_getElem? (i := 316) (by decide +kernel)), by decide +kernel⟩
theorem se_X3_go : am_T (.selects RX3 yX3_go yX3_go) := ⟨List.mem_append_right _ (List.mem_of_getElem? (i := 320) (by decide +kernel)), by decide +kernel⟩
theorem se_X3_zeros : am_T (.selects RX3 yX3_zeros yX3_zeros) := ⟨List.mem_append_right _ (List.mem_of_getElem? (i := 328) (by decide +kernel)), by decide +kernel⟩
theorem se_X7_after : am_T (.selects RX7 yX7_after yX7_after) := ⟨List.mem_append_right _ (List.mem_of_getElem? (i := 332) (by decide +kernel)), by decide +kernel⟩
theorem se_X0_workOut : am_T (.selects RX0 yX0_workOut yX0_workOut) := ⟨List.mem_append_right _ (List.mem_of_getElem? (i := 337) (by decide +kernel)), by decide +kernel⟩
theorem se_X3_takeKinds : am_T (.selects RX3 yX3_takeKinds yX3_takeKinds) := ⟨List.mem_append_right _ (List.mem_of_getElem? (i := 342) (by decide +kernel)), by decide +kernel⟩
theorem se_X3_takeFirstRow : am_T (.selects RX3 yX3_takeFirstRow yX3_takeFirstRow) := ⟨List.mem_append_right _ (List.mem_of_getElem? (i := 357) (by decide +kernel)), by decide +kernel⟩
theorem se_X3_steppedCode : am_T (.selects RX3 yX3_steppedCode yX3_steppedCode) := ⟨List.mem_append_right _ (List.mem_of_getElem? (i := 362) (by decide +kernel)), by decide +kernel⟩
theorem se_X3_takeNextRow : am_T (.selects RX3 yX3_takeNextRow yX3_takeNextRow) := ⟨List.mem_append_right _ (List.mem_of_getElem? (i := 366) (by decide +kernel)), by decide +kernel⟩
theorem se_X0_goesOut : am_T (.selects RX0 yX0_goesOut yX0_goesOut) := ⟨List.mem_append_right _ (List.mem_of_getElem? (i := 390) (by decide +kernel)), by decide +kernel⟩
theorem se_X3_code : am_T (.selects RX3 yX3_code yX3_code) := ⟨List.mem_append_right _ (List.mem_of_getElem? (i := 398) (by decide +kernel)), by decide +kernel⟩
theorem se_X0_behind : am_T (.selects RX0 yX0_behind yX0_behind) := ⟨List.mem_append_right _ (List.mem_of_getElem? (i := 402) (by decide +kernel)), by decide +kernel⟩
theorem se_X0_tailOf : am_T (.selects RX0 yX0_tailOf yX0_tailOf) := ⟨List.mem_append_right _ (List.mem_of_getElem? (i := 406) (by decide +kernel)), by decide +kernel⟩
theorem se_X0_roundOf : am_T (.selects RX0 yX0_roundOf yX0_roundOf) := ⟨List.mem_append_right _ (List.mem_of_getElem? (i := 410) (by decide +kernel)), by decide +kernel⟩
theorem se_X0_nextOf : am_T (.selects RX0 yX0_nextOf yX0_nextOf) := ⟨List.mem_append_right _ (List.mem_of_getElem? (i := 414) (by decide +kernel)), by decide +kernel⟩
theorem se_X0_numberIn : am_T (.selects RX0 yX0_numberIn yX0_numberIn) := ⟨List.mem_append_right _ (List.mem_of_getElem? (i := 418) (by decide +kernel)), by decide +kernel⟩
theorem se_X7_day : am_T (.selects RX7 yX7_day yX7_day) := ⟨List.mem_append_right _ (List.mem_of_getElem? (i := 422) (by decide +kernel)), by decide +kernel⟩
theorem se_X3_takeAll : am_T (.selects RX3 yX3_takeAll yX3_takeAll) := ⟨List.mem_append_right _ (List.mem_of_getElem? (i := 436) (by decide +kernel)), by decide +kernel⟩
theorem se_X1_play : am_T (.selects RX1 yX1_play yX1_play) := ⟨List.mem_append_right _ (List.mem_of_getElem? (i := 441) (by decide +kernel)), by decide +kernel⟩
theorem se_X3_isOut : am_T (.selects RX3 yX3_isOut yX3_isOut) := ⟨List.mem_append_right _ (List.mem_of_getElem? (i := 452) (by decide +kernel)), by decide +kernel⟩
theorem se_X3_total : am_T (.selects RX3 yX3_total yX3_total) := ⟨List.mem_append_right _ (List.mem_of_getElem? (i := 461) (by decide +kernel)), by decide +kernel⟩
theorem se_X7_now : am_T (.selects RX7 yX7_now yX7_now) := ⟨List.mem_append_right _ (List.mem_of_getElem? (i := 466) (by decide +kernel)), by decide +kernel⟩
theorem se_X7_from : am_T (.selects RX7 yX7_from yX7_from) := ⟨List.mem_append_right _ (List.mem_of_getElem? (i := 472) (by decide +kernel)), by decide +kernel⟩
theorem se_X0_comersOf : am_T (.selects RX0 yX0_comersOf yX0_comersOf) := ⟨List.mem_append_right _ (List.mem_of_getElem? (i := 476) (by decide +kernel)), by decide +kernel⟩
theorem se_X0_firstComerOf : am_T (.selects RX0 yX0_firstComerOf yX0_firstComerOf) := ⟨List.mem_append_right _ (List.mem_of_getElem? (i := 480) (by decide +kernel)), by decide +kernel⟩
theorem se_X7_rows : am_T (.selects RX7 yX7_rows yX7_rows) := ⟨List.mem_append_right _ (List.mem_of_getElem? (i := 484) (by decide +kernel)), by decide +kernel⟩
theorem se_X7_longest : am_T (.selects RX7 yX7_longest yX7_longest) := ⟨List.mem_append_right _ (List.mem_of_getElem? (i := 488) (by decide +kernel)), by decide +kernel⟩
theorem se_X7_meet : am_T (.selects RX7 yX7_meet yX7_meet) := ⟨List.mem_append_right _ (List.mem_of_getElem? (i := 492) (by decide +kernel)), by decide +kernel⟩
theorem se_X3_takeRow : am_T (.selects RX3 yX3_takeRow yX3_takeRow) := ⟨List.mem_append_right _ (List.mem_of_getElem? (i := 496) (by decide +kernel)), by decide +kernel⟩
theorem se_X0_meeting : am_T (.selects RX0 yX0_meeting yX0_meeting) := ⟨List.mem_append_right _ (List.mem_of_getElem? (i := 502) (by decide +kernel)), by decide +kernel⟩
theorem se_X7_few : am_T (.selects RX7 yX7_few yX7_few) := ⟨List.mem_append_right _ (List.mem_of_getElem? (i := 506) (by decide +kernel)), by decide +kernel⟩
theorem se_X0_leastSetToGoOut : am_T (.selects RX0 yX0_leastSetToGoOut yX0_leastSetToGoOut) := ⟨List.mem_append_right _ (List.mem_of_getElem? (i := 510) (by decide +kernel)), by decide +kernel⟩
theorem se_X7_reading : am_T (.selects RX7 yX7_reading yX7_reading) := ⟨List.mem_append_right _ (List.mem_of_getElem? (i := 525) (by decide +kernel)), by decide +kernel⟩
theorem se_X2_keep : am_T (.selects RX2 yX2_keep yX2_keep) := ⟨List.mem_append_right _ (List.mem_of_getElem? (i := 532) (by decide +kernel)), by decide +kernel⟩
theorem se_X7_back : am_T (.selects RX7 yX7_back yX7_back) := ⟨List.mem_append_right _ (List.mem_of_getElem? (i := 536) (by decide +kernel)), by decide +kernel⟩
theorem se_X7_kinds : am_T (.selects RX7 yX7_kinds yX7_kinds) := ⟨List.mem_append_right _ (List.mem_of_getElem? (i := 540) (by decide +kernel)), by decide +kernel⟩
theorem se_X2_areSo : am_T (.selects RX2 yX2_areSo yX2_areSo) := ⟨List.mem_append_right _ (List.mem_of_getElem? (i := 544) (by decide +kernel)), by decide +kernel⟩
theorem se_X7_firsts : am_T (.selects RX7 yX7_firsts yX7_firsts) := ⟨List.mem_append_right _ (List.mem_of_getElem? (i := 560) (by decide +kernel)), by decide +kernel⟩
theorem se_X7_odds : am_T (.selects RX7 yX7_odds yX7_odds) := ⟨List.mem_append_right _ (List.mem_of_getElem? (i := 564) (by decide +kernel)), by decide +kernel⟩
theorem se_X5_goTo : am_T (.selects RX5 yX5_goTo yX5_goTo) := ⟨List.mem_append_right _ (List.mem_of_getElem? (i := 569) (by decide +kernel)), by decide +kernel⟩
theorem se_X5_howMany : am_T (.selects RX5 yX5_howMany yX5_howMany) := ⟨List.mem_append_right _ (List.mem_of_getElem? (i := 582) (by decide +kernel)), by decide +kernel⟩
theorem se_X7_sheet : am_T (.selects RX7 yX7_sheet yX7_sheet) := ⟨List.mem_append_right _ (List.mem_of_getElem? (i := 590) (by decide +kernel)), by decide +kernel⟩
theorem se_X4_renew : am_T (.selects RX4 yX4_renew yX4_renew) := ⟨List.mem_append_right _ (List.mem_of_getElem? (i := 594) (by decide +kernel)), by decide +kernel⟩
theorem se_X7_lose : am_T (.selects RX7 yX7_lose yX7_lose) := ⟨List.mem_append_right _ (List.mem_of_getElem? (i := 599) (by decide +kernel)), by decide +kernel⟩
theorem se_X4_drop : am_T (.selects RX4 yX4_drop yX4_drop) := ⟨List.mem_append_right _ (List.mem_of_getElem? (i := 604) (by decide +kernel)), by decide +kernel⟩
theorem se_X7_put : am_T (.selects RX7 yX7_put yX7_put) := ⟨List.mem_append_right _ (List.mem_of_getElem? (i := 608) (by decide +kernel)), by decide +kernel⟩
theorem se_X4_change : am_T (.selects RX4 yX4_change yX4_change) := ⟨List.mem_append_right _ (List.mem_of_getElem? (i := 613) (by decide +kernel)), by decide +kernel⟩
theorem se_X7_cell : am_T (.selects RX7 yX7_cell yX7_cell) := ⟨List.mem_append_right _ (List.mem_of_getElem? (i := 621) (by decide +kernel)), by decide +kernel⟩
theorem se_X7_copy : am_T (.selects RX7 yX7_copy yX7_copy) := ⟨List.mem_append_right _ (List.mem_of_getElem? (i := 626) (by decide +kernel)), by decide +kernel⟩
theorem se_X4_faultOfCopy : am_T (.selects RX4 yX4_faultOfCopy yX4_faultOfCopy) := ⟨List.mem_append_right _ (List.mem_of_getElem? (i := 630) (by decide +kernel)), by decide +kernel⟩
theorem se_X7_tell : am_T (.selects RX7 yX7_tell yX7_tell) := ⟨List.mem_append_right _ (List.mem_of_getElem? (i := 635) (by decide +kernel)), by decide +kernel⟩
theorem se_X7_call : am_T (.selects RX7 yX7_call yX7_call) := ⟨List.mem_append_right _ (List.mem_of_getElem? (i := 655) (by decide +kernel)), by decide +kernel⟩
theorem se_X7_as : am_T (.selects RX7 yX7_as yX7_as) := ⟨List.mem_append_right _ (List.mem_of_getElem? (i := 659) (by decide +kernel)), by decide +kernel⟩
theorem se_X7_trace : am_T (.selects RX7 yX7_trace yX7_trace) := ⟨List.mem_append_right _ (List.mem_of_getElem? (i := 663) (by decide +kernel)), by decide +kernel⟩
theorem se_X7_fault : am_T (.selects RX7 yX7_fault yX7_fault) := ⟨List.mem_append_right _ (List.mem_of_getElem? (i := 667) (by decide +kernel)), by decide +kernel⟩
theorem se_X7_many : am_T (.selects RX7 yX7_many yX7_many) := ⟨List.mem_append_right _ (List.mem_of_getElem? (i := 671) (by decide +kernel)), by decide +kernel⟩
theorem se_X8_ring : am_T (.selects RX8 yX8_ring yX8_ring) := ⟨List.mem_append_right _ (List.mem_of_getElem? (i := 778) (by decide +kernel)), by decide +kernel⟩
theorem se_X8_ofPlace : am_T (.selects RX8 yX8_ofPlace yX8_ofPlace) := ⟨List.mem_append_right _ (List.mem_of_getElem? (i := 818) (by decide +kernel)), by decide +kernel⟩
theorem se_X8_write : am_T (.selects RX8 yX8_write yX8_write) := ⟨List.mem_append_right _ (List.mem_of_getElem? (i := 837) (by decide +kernel)), by decide +kernel⟩
theorem se_X8_steps : am_T (.selects RX8 yX8_steps yX8_steps) := ⟨List.mem_append_right _ (List.mem_of_getElem? (i := 845) (by decide +kernel)), by decide +kernel⟩
theorem se_X8_after : am_T (.selects RX8 yX8_after yX8_after) := ⟨List.mem_append_right _ (List.mem_of_getElem? (i := 862) (by decide +kernel)), by decide +kernel⟩
theorem se_X8_day : am_T (.selects RX8 yX8_day yX8_day) := ⟨List.mem_append_right _ (List.mem_of_getElem? (i := 903) (by decide +kernel)), by decide +kernel⟩
theorem se_X8_now : am_T (.selects RX8 yX8_now yX8_now) := ⟨List.mem_append_right _ (List.mem_of_getElem? (i := 929) (by decide +kernel)), by decide +kernel⟩
theorem se_X8_from : am_T (.selects RX8 yX8_from yX8_from) := ⟨List.mem_append_right _ (List.mem_of_getElem? (i := 933) (by decide +kernel)), by decide +kernel⟩
theorem se_X8_rows : am_T (.selects RX8 yX8_rows yX8_rows) := ⟨List.mem_append_right _ (List.mem_of_getElem? (i := 938) (by decide +kernel)), by decide +kernel⟩
theorem se_X8_longest : am_T (.selects RX8 yX8_longest yX8_longest) := ⟨List.mem_append_right _ (List.mem_of_getElem? (i := 946) (by decide +kernel)), by decide +kernel⟩
theorem se_X8_meet : am_T (.selects RX8 yX8_meet yX8_meet) := ⟨List.mem_append_right _ (List.mem_of_getElem? (i := 950) (by decide +kernel)), by decide +kernel⟩
theorem se_X8_few : am_T (.selects RX8 yX8_few yX8_few) := ⟨List.mem_append_right _ (List.mem_of_getElem? (i := 954) (by decide +kernel)), by decide +kernel⟩
theorem se_X8_reading : am_T (.selects RX8 yX8_reading yX8_reading) := ⟨List.mem_append_right _ (List.mem_of_getElem? (i := 965) (by decide +kernel)), by decide +kernel⟩
theorem se_X8_back : am_T (.selects RX8 yX8_back yX8_back) := ⟨List.mem_append_right _ (List.mem_of_getElem? (i := 969) (by decide +kernel)), by decide +kernel⟩
theorem se_X8_kinds : am_T (.selects RX8 yX8_kinds yX8_kinds) := ⟨List.mem_append_right _ (List.mem_of_getElem? (i := 973) (by decide +kernel)), by decide +kernel⟩
theorem se_X8_firsts : am_T (.selects RX8 yX8_firsts yX8_firsts) := ⟨List.mem_append_right _ (List.mem_of_getElem? (i := 985) (by decide +kernel)), by decide +kernel⟩
theorem se_X8_odds : am_T (.selects RX8 yX8_odds yX8_odds) := ⟨List.mem_append_right _ (List.mem_of_getElem? (i := 989) (by decide +kernel)), by decide +kernel⟩
theorem se_X8_sheet : am_T (.selects RX8 yX8_sheet yX8_sheet) := ⟨List.mem_append_right _ (List.mem_of_getElem? (i := 1000) (by decide +kernel)), by decide +kernel⟩
theorem se_X8_lose : am_T (.selects RX8 yX8_lose yX8_lose) := ⟨List.mem_append_right _ (List.mem_of_getElem? (i := 1004) (by decide +kernel)), by decide +kernel⟩
theorem se_X8_put : am_T (.selects RX8 yX8_put yX8_put) := ⟨List.mem_append_right _ (List.mem_of_getElem? (i := 1008) (by decide +kernel)), by decide +kernel⟩
theorem se_X8_cell : am_T (.selects RX8 yX8_cell yX8_cell) := ⟨List.mem_append_right _ (List.mem_of_getElem? (i := 1016) (by decide +kernel)), by decide +kernel⟩
theorem se_X8_copy : am_T (.selects RX8 yX8_copy yX8_copy) := ⟨List.mem_append_right _ (List.mem_of_getElem? (i := 1024) (by decide +kernel)), by decide +kernel⟩
theorem se_X8_tell : am_T (.selects RX8 yX8_tell yX8_tell) := ⟨List.mem_append_right _ (List.mem_of_getElem? (i := 1028) (by decide +kernel)), by decide +kernel⟩
theorem se_X8_call : am_T (.selects RX8 yX8_call yX8_call) := ⟨List.mem_append_right _ (List.mem_of_getElem? (i := 1036) (by decide +kernel)), by decide +kernel⟩
theorem se_X8_as : am_T (.selects RX8 yX8_as yX8_as) := ⟨List.mem_append_right _ (List.mem_of_getElem? (i := 1040) (by decide +kernel)), by decide +kernel⟩
theorem se_X8_trace : am_T (.selects RX8 yX8_trace yX8_trace) := ⟨List.mem_append_right _ (List.mem_of_getElem? (i := 1044) (by decide +kernel)), by decide +kernel⟩
theorem se_X8_fault : am_T (.selects RX8 yX8_fault yX8_fault) := ⟨List.mem_append_right _ (List.mem_of_getElem? (i := 1048) (by decide +kernel)), by decide +kernel⟩
theorem se_X8_many : am_T (.selects RX8 yX8_many yX8_many) := ⟨List.mem_append_right _ (List.mem_of_getElem? (i := 1052) (by decide +kernel)), by decide +kernel⟩
theorem se_X4_spans : am_T (.selects RX4 yX4_spans yX4_spans) := ⟨List.mem_append_left _ (List.mem_of_getElem? (i := 0) (by decide +kernel)), by decide +kernel⟩
theorem se_X7_answerOfFault : am_T (.selects RX7 yX7_answerOfFault yX7_answerOfFault) := ⟨List.mem_append_left _ (List.mem_of_getElem? (i := 1) (by decide +kernel)), by decide +kernel⟩
theorem se_X3_howFar : am_T (.selects RX3 yX3_howFar yX3_howFar) := ⟨List.mem_append_left _ (List.mem_of_getElem? (i := 2) (by decide +kernel)), by decide +kernel⟩
theorem se_X0_makeRoom : am_T (.selects RX0 yX0_makeRoom yX0_makeRoom) := ⟨List.mem_append_left _ (List.mem_of_getElem? (i := 3) (by decide +kernel)), by decide +kernel⟩
theorem se_X0_findNext : am_T (.selects RX0 yX0_findNext yX0_findNext) := ⟨List.mem_append_left _ (List.mem_of_getElem? (i := 4) (by decide +kernel)), by decide +kernel⟩
theorem se_X0_orderThoseThatDoNotComeBack : am_T (.selects RX0 yX0_orderThoseThatDoNotComeBack yX0_orderThoseThatDoNotComeBack) := ⟨List.mem_append_left _ (List.mem_of_getElem? (i := 5) (by decide +kernel)), by decide +kernel⟩
theorem se_X0_findRounds : am_T (.selects RX0 yX0_findRounds yX0_findRounds) := ⟨List.mem_append_left _ (List.mem_of_getElem? (i := 6) (by decide +kernel)), by decide +kernel⟩
theorem se_X0_markRound : am_T (.selects RX0 yX0_markRound yX0_markRound) := ⟨List.mem_append_left _ (List.mem_of_getElem? (i := 7) (by decide +kernel)), by decide +kernel⟩
theorem se_X0_findTails : am_T (.selects RX0 yX0_findTails yX0_findTails) := ⟨List.mem_append_left _ (List.mem_of_getElem? (i := 8) (by decide +kernel)), by decide +kernel⟩
theorem se_X0_sumUp : am_T (.selects RX0 yX0_sumUp yX0_sumUp) := ⟨List.mem_append_left _ (List.mem_of_getElem? (i := 9) (by decide +kernel)), by decide +kernel⟩
theorem se_X0_isRow : am_T (.selects RX0 yX0_isRow yX0_isRow) := ⟨List.mem_append_left _ (List.mem_of_getElem? (i := 10) (by decide +kernel)), by decide +kernel⟩
theorem se_X1_canDo : am_T (.selects RX1 yX1_canDo yX1_canDo) := ⟨List.mem_append_left _ (List.mem_of_getElem? (i := 11) (by decide +kernel)), by decide +kernel⟩
theorem se_X7_ofDay : am_T (.selects RX7 yX7_ofDay yX7_ofDay) := ⟨List.mem_append_left _ (List.mem_of_getElem? (i := 12) (by decide +kernel)), by decide +kernel⟩
theorem se_X0_unlikePlaces : am_T (.selects RX0 yX0_unlikePlaces yX0_unlikePlaces) := ⟨List.mem_append_left _ (List.mem_of_getElem? (i := 13) (by decide +kernel)), by decide +kernel⟩
theorem se_X2_lastTime : am_T (.selects RX2 yX2_lastTime yX2_lastTime) := ⟨List.mem_append_left _ (List.mem_of_getElem? (i := 14) (by decide +kernel)), by decide +kernel⟩
theorem se_X2_areSoAt : am_T (.selects RX2 yX2_areSoAt yX2_areSoAt) := ⟨List.mem_append_left _ (List.mem_of_getElem? (i := 15) (by decide +kernel)), by decide +kernel⟩
theorem se_X5_begin : am_T (.selects RX5 yX5_begin yX5_begin) := ⟨List.mem_append_left _ (List.mem_of_getElem? (i := 16) (by decide +kernel)), by decide +kernel⟩
theorem se_X5_stepAll : am_T (.selects RX5 yX5_stepAll yX5_stepAll) := ⟨List.mem_append_left _ (List.mem_of_getElem? (i := 17) (by decide +kernel)), by decide +kernel⟩
theorem se_X4_cut : am_T (.selects RX4 yX4_cut yX4_cut) := ⟨List.mem_append_left _ (List.mem_of_getElem? (i := 18) (by decide +kernel)), by decide +kernel⟩
theorem se_X7_tellPlain : am_T (.selects RX7 yX7_tellPlain yX7_tellPlain) := ⟨List.mem_append_left _ (List.mem_of_getElem? (i := 19) (by decide +kernel)), by decide +kernel⟩
theorem se_X7_leave : am_T (.selects RX7 yX7_leave yX7_leave) := ⟨List.mem_append_left _ (List.mem_of_getElem? (i := 20) (by decide +kernel)), by decide +kernel⟩
theorem se_X7_tellFar : am_T (.selects RX7 yX7_tellFar yX7_tellFar) := ⟨List.mem_append_left _ (List.mem_of_getElem? (i := 21) (by decide +kernel)), by decide +kernel⟩
theorem se_X7_tellMixed : am_T (.selects RX7 yX7_tellMixed yX7_tellMixed) := ⟨List.mem_append_left _ (List.mem_of_getElem? (i := 22) (by decide +kernel)), by decide +kernel⟩
theorem se_X8_refused : am_T (.selects RX8 yX8_refused yX8_refused) := ⟨List.mem_append_left _ (List.mem_of_getElem? (i := 23) (by decide +kernel)), by decide +kernel⟩
theorem se_X8_cellsBarred : am_T (.selects RX8 yX8_cellsBarred yX8_cellsBarred) := ⟨List.mem_append_left _ (List.mem_of_getElem? (i := 24) (by decide +kernel)), by decide +kernel⟩
theorem se_X8_failed : am_T (.selects RX8 yX8_failed yX8_failed) := ⟨List.mem_append_left _ (List.mem_of_getElem? (i := 25) (by decide +kernel)), by decide +kernel⟩
theorem se_X8_readsRing : am_T (.selects RX8 yX8_readsRing yX8_readsRing) := ⟨List.mem_append_left _ (List.mem_of_getElem? (i := 26) (by decide +kernel)), by decide +kernel⟩
theorem se_X8_codeAt : am_T (.selects RX8 yX8_codeAt yX8_codeAt) := ⟨List.mem_append_left _ (List.mem_of_getElem? (i := 27) (by decide +kernel)), by decide +kernel⟩
theorem se_X8_readsPlace : am_T (.selects RX8 yX8_readsPlace yX8_readsPlace) := ⟨List.mem_append_left _ (List.mem_of_getElem? (i := 28) (by decide +kernel)), by decide +kernel⟩
theorem se_X8_noPlace : am_T (.selects RX8 yX8_noPlace yX8_noPlace) := ⟨List.mem_append_left _ (List.mem_of_getElem? (i := 29) (by decide +kernel)), by decide +kernel⟩
theorem se_X8_takesNow : am_T (.selects RX8 yX8_takesNow yX8_takesNow) := ⟨List.mem_append_left _ (List.mem_of_getElem? (i := 30) (by decide +kernel)), by decide +kernel⟩
theorem se_X8_becomes : am_T (.selects RX8 yX8_becomes yX8_becomes) := ⟨List.mem_append_left _ (List.mem_of_getElem? (i := 31) (by decide +kernel)), by decide +kernel⟩
theorem se_X8_isNumber : am_T (.selects RX8 yX8_isNumber yX8_isNumber) := ⟨List.mem_append_left _ (List.mem_of_getElem? (i := 32) (by decide +kernel)), by decide +kernel⟩
theorem se_X8_doesSteps : am_T (.selects RX8 yX8_doesSteps yX8_doesSteps) := ⟨List.mem_append_left _ (List.mem_of_getElem? (i := 33) (by decide +kernel)), by decide +kernel⟩
theorem se_X8_stepsOnce : am_T (.selects RX8 yX8_stepsOnce yX8_stepsOnce) := ⟨List.mem_append_left _ (List.mem_of_getElem? (i := 34) (by decide +kernel)), by decide +kernel⟩
theorem se_X8_zeros : am_T (.selects RX8 yX8_zeros yX8_zeros) := ⟨List.mem_append_left _ (List.mem_of_getElem? (i := 35) (by decide +kernel)), by decide +kernel⟩
theorem se_X8_rowNow : am_T (.selects RX8 yX8_rowNow yX8_rowNow) := ⟨List.mem_append_left _ (List.mem_of_getElem? (i := 36) (by decide +kernel)), by decide +kernel⟩
theorem se_X8_rowAt : am_T (.selects RX8 yX8_rowAt yX8_rowAt) := ⟨List.mem_append_left _ (List.mem_of_getElem? (i := 37) (by decide +kernel)), by decide +kernel⟩
theorem se_X8_tables : am_T (.selects RX8 yX8_tables yX8_tables) := ⟨List.mem_append_left _ (List.mem_of_getElem? (i := 38) (by decide +kernel)), by decide +kernel⟩
theorem se_X8_allRows : am_T (.selects RX8 yX8_allRows yX8_allRows) := ⟨List.mem_append_left _ (List.mem_of_getElem? (i := 39) (by decide +kernel)), by decide +kernel⟩
theorem se_X8_takesRow : am_T (.selects RX8 yX8_takesRow yX8_takesRow) := ⟨List.mem_append_left _ (List.mem_of_getElem? (i := 40) (by decide +kernel)), by decide +kernel⟩
theorem se_X8_takesAway : am_T (.selects RX8 yX8_takesAway yX8_takesAway) := ⟨List.mem_append_left _ (List.mem_of_getElem? (i := 41) (by decide +kernel)), by decide +kernel⟩
theorem se_X8_roundOf : am_T (.selects RX8 yX8_roundOf yX8_roundOf) := ⟨List.mem_append_left _ (List.mem_of_getElem? (i := 42) (by decide +kernel)), by decide +kernel⟩
theorem se_X8_behind : am_T (.selects RX8 yX8_behind yX8_behind) := ⟨List.mem_append_left _ (List.mem_of_getElem? (i := 43) (by decide +kernel)), by decide +kernel⟩
theorem se_X8_roundFrom : am_T (.selects RX8 yX8_roundFrom yX8_roundFrom) := ⟨List.mem_append_left _ (List.mem_of_getElem? (i := 44) (by decide +kernel)), by decide +kernel⟩
theorem se_X8_dayOf : am_T (.selects RX8 yX8_dayOf yX8_dayOf) := ⟨List.mem_append_left _ (List.mem_of_getElem? (i := 45) (by decide +kernel)), by decide +kernel⟩
theorem se_X8_doesPair : am_T (.selects RX8 yX8_doesPair yX8_doesPair) := ⟨List.mem_append_left _ (List.mem_of_getElem? (i := 46) (by decide +kernel)), by decide +kernel⟩
theorem se_X8_sumNow : am_T (.selects RX8 yX8_sumNow yX8_sumNow) := ⟨List.mem_append_left _ (List.mem_of_getElem? (i := 47) (by decide +kernel)), by decide +kernel⟩
theorem se_X8_tailNow : am_T (.selects RX8 yX8_tailNow yX8_tailNow) := ⟨List.mem_append_left _ (List.mem_of_getElem? (i := 48) (by decide +kernel)), by decide +kernel⟩
theorem se_X8_rounds : am_T (.selects RX8 yX8_rounds yX8_rounds) := ⟨List.mem_append_left _ (List.mem_of_getElem? (i := 49) (by decide +kernel)), by decide +kernel⟩
theorem se_X8_unlikeNow : am_T (.selects RX8 yX8_unlikeNow yX8_unlikeNow) := ⟨List.mem_append_left _ (List.mem_of_getElem? (i := 50) (by decide +kernel)), by decide +kernel⟩
theorem se_X8_areSo : am_T (.selects RX8 yX8_areSo yX8_areSo) := ⟨List.mem_append_left _ (List.mem_of_getElem? (i := 51) (by decide +kernel)), by decide +kernel⟩
theorem se_X8_isSo : am_T (.selects RX8 yX8_isSo yX8_isSo) := ⟨List.mem_append_left _ (List.mem_of_getElem? (i := 52) (by decide +kernel)), by decide +kernel⟩
theorem se_X8_noCell : am_T (.selects RX8 yX8_noCell yX8_noCell) := ⟨List.mem_append_left _ (List.mem_of_getElem? (i := 53) (by decide +kernel)), by decide +kernel⟩
theorem se_X8_failedLong : am_T (.selects RX8 yX8_failedLong yX8_failedLong) := ⟨List.mem_append_left _ (List.mem_of_getElem? (i := 54) (by decide +kernel)), by decide +kernel⟩
theorem se_X8_traced : am_T (.selects RX8 yX8_traced yX8_traced) := ⟨List.mem_append_left _ (List.mem_of_getElem? (i := 55) (by decide +kernel)), by decide +kernel⟩
theorem co_X0_init : am_T (.code yX0_init cX0_init 1 none) := ⟨List.mem_append_right _ (List.mem_of_getElem? (i := 79) (by decide +kernel)), by decide +kernel⟩
theorem ok_X0_init : am_ok mX0_init 0 := ⟨co_X0_init, in_X0, ⟨by decide +kernel, by decide +kernel⟩, by decide +kernel, by decide, by decide +kernel⟩
theorem co_X0_forget : am_T (.code yX0_forget cX0_forget 1 none) := ⟨List.mem_append_right _ (List.mem_of_getElem? (i := 278) (by decide +kernel)), by decide +kernel⟩
theorem ok_X0_forget : am_ok mX0_forget 0 := ⟨co_X0_forget, in_X0, ⟨by decide +kernel, by decide +kernel⟩, by decide +kernel, by decide, by decide +kernel⟩
theorem co_X0_workOut : am_T (.code yX0_workOut cX0_workOut 3 none) := ⟨List.mem_append_right _ (List.mem_of_getElem? (i := 338) (by decide +kernel)), by decide +kernel⟩
theorem ok_X0_workOut : am_ok mX0_workOut 1 := ⟨co_X0_workOut, in_X0, ⟨by decide +kernel, by decide +kernel⟩, by decide +kernel, by decide, by decide +kernel⟩
theorem co_X0_makeRoom : am_T (.code yX0_makeRoom cX0_makeRoom 1 none) := ⟨List.mem_append_right _ (List.mem_of_getElem? (i := 347) (by decide +kernel)), by decide +kernel⟩
theorem ok_X0_makeRoom : am_ok mX0_makeRoom 0 := ⟨co_X0_makeRoom, in_X0, ⟨by decide +kernel, by decide +kernel⟩, by decide +kernel, by decide, by decide +kernel⟩
theorem co_X0_findNext : am_T (.code yX0_findNext cX0_findNext 2 none) := ⟨List.mem_append_right _ (List.mem_of_getElem? (i := 351) (by decide +kernel)), by decide +kernel⟩
theorem ok_X0_findNext : am_ok mX0_findNext 0 := ⟨co_X0_findNext, in_X0, ⟨by decide +kernel, by decide +kernel⟩, by decide +kernel, by decide, by decide +kernel⟩
theorem co_X0_orderThoseThatDoNotComeBack : am_T (.code yX0_orderThoseThatDoNotComeBack cX0_orderThoseThatDoNotComeBack 3 none) := ⟨List.mem_append_right _ (List.mem_of_getElem? (i := 371) (by decide +kernel)), by decide +kernel⟩
theorem ok_X0_orderThoseThatDoNotComeBack : am_ok mX0_orderThoseThatDoNotComeBack 0 := ⟨co_X0_orderThoseThatDoNotComeBack, in_X0, ⟨by decide +kernel, by decide +kernel⟩, by decide +kernel, by decide, by decide +kernel⟩
theorem co_X0_findRounds : am_T (.code yX0_findRounds cX0_findRounds 2 none) := ⟨List.mem_append_right _ (List.mem_of_getElem? (i := 375) (by decide +kernel)), by decide +kernel⟩
theorem ok_X0_findRounds : am_ok mX0_findRounds 0 := ⟨co_X0_findRounds, in_X0, ⟨by decide +kernel, by decide +kernel⟩, by decide +kernel, by decide, by decide +kernel⟩
theorem co_X0_markRound : am_T (.code yX0_markRound cX0_markRound 4 none) := ⟨List.mem_append_right _ (List.mem_of_getElem? (i := 379) (by decide +kernel)), by decide +kernel⟩
theorem ok_X0_markRound : am_ok mX0_markRound 1 := ⟨co_X0_markRound, in_X0, ⟨by decide +kernel, by decide +kernel⟩, by decide +kernel, by decide, by decide +kernel⟩
theorem co_X0_findTails : am_T (.code yX0_findTails cX0_findTails 3 none) := ⟨List.mem_append_right _ (List.mem_of_getElem? (i := 383) (by decide +kernel)), by decide +kernel⟩
theorem ok_X0_findTails : am_ok mX0_findTails 0 := ⟨co_X0_findTails, in_X0, ⟨by decide +kernel, by decide +kernel⟩, by decide +kernel, by decide, by decide +kernel⟩
theorem co_X0_sumUp : am_T (.code yX0_sumUp cX0_sumUp 2 none) := ⟨List.mem_append_right _ (List.mem_of_getElem? (i := 387) (by decide +kernel)), by decide +kernel⟩
theorem ok_X0_sumUp : am_ok mX0_sumUp 0 := ⟨co_X0_sumUp, in_X0, ⟨by decide +kernel, by decide +kernel⟩, by decide +kernel, by decide, by decide +kernel⟩
theorem co_X0_isRow : am_T (.code yX0_isRow cX0_isRow 2 (some .boolean)) := ⟨List.mem_append_right _ (List.mem_of_getElem? (i := 395) (by decide +kernel)), by decide +kernel⟩
theorem ok_X0_isRow : am_ok mX0_isRow 1 := ⟨co_X0_isRow, in_X0, ⟨by decide +kernel, by decide +kernel⟩, by decide +kernel, by decide, by decide +kernel⟩
theorem co_X0_nextOf : am_T (.code yX0_nextOf cX0_nextOf 2 (some .int)) := ⟨List.mem_append_right _ (List.mem_of_getElem? (i := 415) (by decide +kernel)), by decide +kernel⟩
theorem ok_X0_nextOf : am_ok mX0_nextOf 1 := ⟨co_X0_nextOf, in_X0, ⟨by decide +kernel, by decide +kernel⟩, by decide +kernel, by decide, by decide +kernel⟩
theorem co_X0_tailOf : am_T (.code yX0_tailOf cX0_tailOf 2 (some .int)) := ⟨List.mem_append_right _ (List.mem_of_getElem? (i := 407) (by decide +kernel)), by decide +kernel⟩
theorem ok_X0_tailOf : am_ok mX0_tailOf 1 := ⟨co_X0_tailOf, in_X0, ⟨by decide +kernel, by decide +kernel⟩, by decide +kernel, by decide, by decide +kernel⟩
theorem co_X0_roundOf : am_T (.code yX0_roundOf cX0_roundOf 5 (some .int)) := ⟨List.mem_append_right _ (List.mem_of_getElem? (i := 411) (by decide +kernel)), by decide +kernel⟩
theorem ok_X0_roundOf : am_ok mX0_roundOf 1 := ⟨co_X0_roundOf, in_X0, ⟨by decide +kernel, by decide +kernel⟩, by decide +kernel, by decide, by decide +kernel⟩
theorem co_X0_goesOut : am_T (.code yX0_goesOut cX0_goesOut 2 (some .boolean)) := ⟨List.mem_append_right _ (List.mem_of_getElem? (i := 391) (by decide +kernel)), by decide +kernel⟩
theorem ok_X0_goesOut : am_ok mX0_goesOut 1 := ⟨co_X0_goesOut, in_X0, ⟨by decide +kernel, by decide +kernel⟩, by decide +kernel, by decide, by decide +kernel⟩
theorem co_X0_behind : am_T (.code yX0_behind cX0_behind 11 (some .int)) := ⟨List.mem_append_right _ (List.mem_of_getElem? (i := 403) (by decide +kernel)), by decide +kernel⟩
theorem ok_X0_behind : am_ok mX0_behind 2 := ⟨co_X0_behind, in_X0, ⟨by decide +kernel, by decide +kernel⟩, by decide +kernel, by decide, by decide +kernel⟩
theorem co_X0_comersOf : am_T (.code yX0_comersOf cX0_comersOf 4 (some .int)) := ⟨List.mem_append_right _ (List.mem_of_getElem? (i := 477) (by decide +kernel)), by decide +kernel⟩
theorem ok_X0_comersOf : am_ok mX0_comersOf 1 := ⟨co_X0_comersOf, in_X0, ⟨by decide +kernel, by decide +kernel⟩, by decide +kernel, by decide, by decide +kernel⟩
theorem co_X0_firstComerOf : am_T (.code yX0_firstComerOf cX0_firstComerOf 3 (some .int)) := ⟨List.mem_append_right _ (List.mem_of_getElem? (i := 481) (by decide +kernel)), by decide +kernel⟩
theorem ok_X0_firstComerOf : am_ok mX0_firstComerOf 1 := ⟨co_X0_firstComerOf, in_X0, ⟨by decide +kernel, by decide +kernel⟩, by decide +kernel, by decide, by decide +kernel⟩
theorem co_X0_meeting : am_T (.code yX0_meeting cX0_meeting 6 (some .int)) := ⟨List.mem_append_right _ (List.mem_of_getElem? (i := 503) (by decide +kernel)), by decide +kernel⟩
theorem ok_X0_meeting : am_ok mX0_meeting 2 := ⟨co_X0_meeting, in_X0, ⟨by decide +kernel, by decide +kernel⟩, by decide +kernel, by decide, by decide +kernel⟩
theorem co_X0_leastSetToGoOut : am_T (.code yX0_leastSetToGoOut cX0_leastSetToGoOut 6 (some .int)) := ⟨List.mem_append_right _ (List.mem_of_getElem? (i := 511) (by decide +kernel)), by decide +kernel⟩
theorem ok_X0_leastSetToGoOut : am_ok mX0_leastSetToGoOut 1 := ⟨co_X0_leastSetToGoOut, in_X0, ⟨by decide +kernel, by decide +kernel⟩, by decide +kernel, by decide, by decide +kernel⟩
theorem co_X0_unlikePlaces : am_T (.code yX0_unlikePlaces cX0_unlikePlaces 7 (some .int)) := ⟨List.mem_append_right _ (List.mem_of_getElem? (i := 515) (by decide +kernel)), by decide +kernel⟩
theorem ok_X0_unlikePlaces : am_ok mX0_unlikePlaces 2 := ⟨co_X0_unlikePlaces, in_X0, ⟨by decide +kernel, by decide +kernel⟩, by decide +kernel, by decide, by decide +kernel⟩
theorem co_X0_numberIn : am_T (.code yX0_numberIn cX0_numberIn 5 (some .int)) := ⟨List.mem_append_right _ (List.mem_of_getElem? (i := 419) (by decide +kernel)), by decide +kernel⟩
theorem ok_X0_numberIn : am_ok mX0_numberIn 2 := ⟨co_X0_numberIn, in_X0, ⟨by decide +kernel, by decide +kernel⟩, by decide +kernel, by decide, by decide +kernel⟩
theorem co_X1_init : am_T (.code yX1_init cX1_init 1 none) := ⟨List.mem_append_right _ (List.mem_of_getElem? (i := 180) (by decide +kernel)), by decide +kernel⟩
theorem ok_X1_init : am_ok mX1_init 0 := ⟨co_X1_init, in_X1, ⟨by decide +kernel, by decide +kernel⟩, by decide +kernel, by decide, by decide +kernel⟩
theorem co_X1_areActs : am_T (.code yX1_areActs cX1_areActs 6 (some .boolean)) := ⟨List.mem_append_right _ (List.mem_of_getElem? (i := 429) (by decide +kernel)), by decide +kernel⟩
theorem ok_X1_areActs : am_ok mX1_areActs 3 := ⟨co_X1_areActs, in_X1, ⟨by decide +kernel, by decide +kernel⟩, by decide +kernel, by decide, by decide +kernel⟩
theorem co_X1_isAct : am_T (.code yX1_isAct cX1_isAct 2 (some .boolean)) := ⟨List.mem_append_right _ (List.mem_of_getElem? (i := 433) (by decide +kernel)), by decide +kernel⟩
theorem ok_X1_isAct : am_ok mX1_isAct 2 := ⟨co_X1_isAct, in_X1, ⟨by decide +kernel, by decide +kernel⟩, by decide +kernel, by decide, by decide +kernel⟩
theorem co_X1_play : am_T (.code yX1_play cX1_play 6 none) := ⟨List.mem_append_right _ (List.mem_of_getElem? (i := 442) (by decide +kernel)), by decide +kernel⟩
theorem ok_X1_play : am_ok mX1_play 4 := ⟨co_X1_play, in_X1, ⟨by decide +kernel, by decide +kernel⟩, by decide +kernel, by decide, by decide +kernel⟩
theorem co_X1_canDo : am_T (.code yX1_canDo cX1_canDo 4 (some .boolean)) := ⟨List.mem_append_right _ (List.mem_of_getElem? (i := 446) (by decide +kernel)), by decide +kernel⟩
theorem ok_X1_canDo : am_ok mX1_canDo 3 := ⟨co_X1_canDo, in_X1, ⟨by decide +kernel, by decide +kernel⟩, by decide +kernel, by decide, by decide +kernel⟩
theorem co_X2_init : am_T (.code yX2_init cX2_init 1 none) := ⟨List.mem_append_right _ (List.mem_of_getElem? (i := 160) (by decide +kernel)), by decide +kernel⟩
theorem ok_X2_init : am_ok mX2_init 0 := ⟨co_X2_init, in_X2, ⟨by decide +kernel, by decide +kernel⟩, by decide +kernel, by decide, by decide +kernel⟩
theorem co_X2_keep : am_T (.code yX2_keep cX2_keep 4 (some .int)) := ⟨List.mem_append_right _ (List.mem_of_getElem? (i := 533) (by decide +kernel)), by decide +kernel⟩
theorem ok_X2_keep : am_ok mX2_keep 3 := ⟨co_X2_keep, in_X2, ⟨by decide +kernel, by decide +kernel⟩, by decide +kernel, by decide, by decide +kernel⟩
theorem co_X2_areSo : am_T (.code yX2_areSo cX2_areSo 4 (some .boolean)) := ⟨List.mem_append_right _ (List.mem_of_getElem? (i := 545) (by decide +kernel)), by decide +kernel⟩
theorem ok_X2_areSo : am_ok mX2_areSo 1 := ⟨co_X2_areSo, in_X2, ⟨by decide +kernel, by decide +kernel⟩, by decide +kernel, by decide, by decide +kernel⟩
theorem co_X2_lastTime : am_T (.code yX2_lastTime cX2_lastTime 3 (some .int)) := ⟨List.mem_append_right _ (List.mem_of_getElem? (i := 549) (by decide +kernel)), by decide +kernel⟩
theorem ok_X2_lastTime : am_ok mX2_lastTime 0 := ⟨co_X2_lastTime, in_X2, ⟨by decide +kernel, by decide +kernel⟩, by decide +kernel, by decide, by decide +kernel⟩
theorem co_X2_areSoAt : am_T (.code yX2_areSoAt cX2_areSoAt 4 (some .boolean)) := ⟨List.mem_append_right _ (List.mem_of_getElem? (i := 556) (by decide +kernel)), by decide +kernel⟩
theorem ok_X2_areSoAt : am_ok mX2_areSoAt 2 := ⟨co_X2_areSoAt, in_X2, ⟨by decide +kernel, by decide +kernel⟩, by decide +kernel, by decide, by decide +kernel⟩
theorem co_X3_init : am_T (.code yX3_init cX3_init 1 none) := ⟨List.mem_append_right _ (List.mem_of_getElem? (i := 45) (by decide +kernel)), by decide +kernel⟩
theorem ok_X3_init : am_ok mX3_init 0 := ⟨co_X3_init, in_X3, ⟨by decide +kernel, by decide +kernel⟩, by decide +kernel, by decide, by decide +kernel⟩
theorem co_X3_isNone : am_T (.code yX3_isNone cX3_isNone 1 (some .boolean)) := ⟨List.mem_append_right _ (List.mem_of_getElem? (i := 317) (by decide +kernel)), by decide +kernel⟩
theorem ok_X3_isNone : am_ok mX3_isNone 0 := ⟨co_X3_isNone, in_X3, ⟨by decide +kernel, by decide +kernel⟩, by decide +kernel, by decide, by decide +kernel⟩
theorem co_X3_has : am_T (.code yX3_has cX3_has 2 (some .boolean)) := ⟨List.mem_append_right _ (List.mem_of_getElem? (i := 290) (by decide +kernel)), by decide +kernel⟩
theorem ok_X3_has : am_ok mX3_has 1 := ⟨co_X3_has, in_X3, ⟨by decide +kernel, by decide +kernel⟩, by decide +kernel, by decide, by decide +kernel⟩
theorem co_X3_isNumber : am_T (.code yX3_isNumber cX3_isNumber 2 (some .boolean)) := ⟨List.mem_append_right _ (List.mem_of_getElem? (i := 309) (by decide +kernel)), by decide +kernel⟩
theorem ok_X3_isNumber : am_ok mX3_isNumber 1 := ⟨co_X3_isNumber, in_X3, ⟨by decide +kernel, by decide +kernel⟩, by decide +kernel, by decide, by decide +kernel⟩
theorem co_X3_takeAll : am_T (.code yX3_takeAll cX3_takeAll 2 none) := ⟨List.mem_append_right _ (List.mem_of_getElem? (i := 437) (by decide +kernel)), by decide +kernel⟩
theorem ok_X3_takeAll : am_ok mX3_takeAll 1 := ⟨co_X3_takeAll, in_X3, ⟨by decide +kernel, by decide +kernel⟩, by decide +kernel, by decide, by decide +kernel⟩
theorem co_X3_takeKinds : am_T (.code yX3_takeKinds cX3_takeKinds 2 none) := ⟨List.mem_append_right _ (List.mem_of_getElem? (i := 343) (by decide +kernel)), by decide +kernel⟩
theorem ok_X3_takeKinds : am_ok mX3_takeKinds 1 := ⟨co_X3_takeKinds, in_X3, ⟨by decide +kernel, by decide +kernel⟩, by decide +kernel, by decide, by decide +kernel⟩
theorem co_X3_takeRow : am_T (.code yX3_takeRow cX3_takeRow 5 (some .boolean)) := ⟨List.mem_append_right _ (List.mem_of_getElem? (i := 497) (by decide +kernel)), by decide +kernel⟩
theorem ok_X3_takeRow : am_ok mX3_takeRow 2 := ⟨co_X3_takeRow, in_X3, ⟨by decide +kernel, by decide +kernel⟩, by decide +kernel, by decide, by decide +kernel⟩
theorem co_X3_takeFirstRow : am_T (.code yX3_takeFirstRow cX3_takeFirstRow 1 none) := ⟨List.mem_append_right _ (List.mem_of_getElem? (i := 358) (by decide +kernel)), by decide +kernel⟩
theorem ok_X3_takeFirstRow : am_ok mX3_takeFirstRow 0 := ⟨co_X3_takeFirstRow, in_X3, ⟨by decide +kernel, by decide +kernel⟩, by decide +kernel, by decide, by decide +kernel⟩
theorem co_X3_takeNextRow : am_T (.code yX3_takeNextRow cX3_takeNextRow 2 none) := ⟨List.mem_append_right _ (List.mem_of_getElem? (i := 367) (by decide +kernel)), by decide +kernel⟩
theorem ok_X3_takeNextRow : am_ok mX3_takeNextRow 0 := ⟨co_X3_takeNextRow, in_X3, ⟨by decide +kernel, by decide +kernel⟩, by decide +kernel, by decide, by decide +kernel⟩
theorem co_X3_stepped : am_T (.code yX3_stepped cX3_stepped 4 (some .int)) := ⟨List.mem_append_right _ (List.mem_of_getElem? (i := 294) (by decide +kernel)), by decide +kernel⟩
theorem ok_X3_stepped : am_ok mX3_stepped 1 := ⟨co_X3_stepped, in_X3, ⟨by decide +kernel, by decide +kernel⟩, by decide +kernel, by decide, by decide +kernel⟩
theorem co_X3_howFar : am_T (.code yX3_howFar cX3_howFar 4 (some .int)) := ⟨List.mem_append_right _ (List.mem_of_getElem? (i := 298) (by decide +kernel)), by decide +kernel⟩
theorem ok_X3_howFar : am_ok mX3_howFar 2 := ⟨co_X3_howFar, in_X3, ⟨by decide +kernel, by decide +kernel⟩, by decide +kernel, by decide, by decide +kernel⟩
theorem co_X3_go : am_T (.code yX3_go cX3_go 4 none) := ⟨List.mem_append_right _ (List.mem_of_getElem? (i := 321) (by decide +kernel)), by decide +kernel⟩
theorem ok_X3_go : am_ok mX3_go 1 := ⟨co_X3_go, in_X3, ⟨by decide +kernel, by decide +kernel⟩, by decide +kernel, by decide, by decide +kernel⟩
theorem co_X3_zeros : am_T (.code yX3_zeros cX3_zeros 3 (some .int)) := ⟨List.mem_append_right _ (List.mem_of_getElem? (i := 329) (by decide +kernel)), by decide +kernel⟩
theorem ok_X3_zeros : am_ok mX3_zeros 0 := ⟨co_X3_zeros, in_X3, ⟨by decide +kernel, by decide +kernel⟩, by decide +kernel, by decide, by decide +kernel⟩
theorem co_X3_isOut : am_T (.code yX3_isOut cX3_isOut 1 (some .boolean)) := ⟨List.mem_append_right _ (List.mem_of_getElem? (i := 453) (by decide +kernel)), by decide +kernel⟩
theorem ok_X3_isOut : am_ok mX3_isOut 0 := ⟨co_X3_isOut, in_X3, ⟨by decide +kernel, by decide +kernel⟩, by decide +kernel, by decide, by decide +kernel⟩
theorem co_X3_total : am_T (.code yX3_total cX3_total 3 (some .int)) := ⟨List.mem_append_right _ (List.mem_of_getElem? (i := 462) (by decide +kernel)), by decide +kernel⟩
theorem ok_X3_total : am_ok mX3_total 0 := ⟨co_X3_total, in_X3, ⟨by decide +kernel, by decide +kernel⟩, by decide +kernel, by decide, by decide +kernel⟩
theorem co_X3_code : am_T (.code yX3_code cX3_code 3 (some .int)) := ⟨List.mem_append_right _ (List.mem_of_getElem? (i := 399) (by decide +kernel)), by decide +kernel⟩
theorem ok_X3_code : am_ok mX3_code 0 := ⟨co_X3_code, in_X3, ⟨by decide +kernel, by decide +kernel⟩, by decide +kernel, by decide, by decide +kernel⟩
theorem co_X3_steppedCode : am_T (.code yX3_steppedCode cX3_steppedCode 3 (some .int)) := ⟨List.mem_append_right _ (List.mem_of_getElem? (i := 363) (by decide +kernel)), by decide +kernel⟩
theorem ok_X3_steppedCode : am_ok mX3_steppedCode 0 := ⟨co_X3_steppedCode, in_X3, ⟨by decide +kernel, by decide +kernel⟩, by decide +kernel, by decide, by decide +kernel⟩
theorem co_X4_init : am_T (.code yX4_init cX4_init 1 none) := ⟨List.mem_append_right _ (List.mem_of_getElem? (i := 27) (by decide +kernel)), by decide +kernel⟩
theorem ok_X4_init : am_ok mX4_init 0 := ⟨co_X4_init, in_X4, ⟨by decide +kernel, by decide +kernel⟩, by decide +kernel, by decide, by decide +kernel⟩
theorem co_X4_hasNothing : am_T (.code yX4_hasNothing cX4_hasNothing 1 (some .boolean)) := ⟨List.mem_append_right _ (List.mem_of_getElem? (i := 243) (by decide +kernel)), by decide +kernel⟩
theorem ok_X4_hasNothing : am_ok mX4_hasNothing 0 := ⟨co_X4_hasNothing, in_X4, ⟨by decide +kernel, by decide +kernel⟩, by decide +kernel, by decide, by decide +kernel⟩
theorem co_X4_renew : am_T (.code yX4_renew cX4_renew 3 none) := ⟨List.mem_append_right _ (List.mem_of_getElem? (i := 595) (by decide +kernel)), by decide +kernel⟩
theorem ok_X4_renew : am_ok mX4_renew 2 := ⟨co_X4_renew, in_X4, ⟨by decide +kernel, by decide +kernel⟩, by decide +kernel, by decide, by decide +kernel⟩
theorem co_X4_drop : am_T (.code yX4_drop cX4_drop 1 none) := ⟨List.mem_append_right _ (List.mem_of_getElem? (i := 605) (by decide +kernel)), by decide +kernel⟩
theorem ok_X4_drop : am_ok mX4_drop 0 := ⟨co_X4_drop, in_X4, ⟨by decide +kernel, by decide +kernel⟩, by decide +kernel, by decide, by decide +kernel⟩
theorem co_X4_faultAs : am_T (.code yX4_faultAs cX4_faultAs 4 (some .int)) := ⟨List.mem_append_right _ (List.mem_of_getElem? (i := 239) (by decide +kernel)), by decide +kernel⟩
theorem ok_X4_faultAs : am_ok mX4_faultAs 3 := ⟨co_X4_faultAs, in_X4, ⟨by decide +kernel, by decide +kernel⟩, by decide +kernel, by decide, by decide +kernel⟩
theorem co_X4_faultOf : am_T (.code yX4_faultOf cX4_faultOf 3 (some .int)) := ⟨List.mem_append_right _ (List.mem_of_getElem? (i := 247) (by decide +kernel)), by decide +kernel⟩
theorem ok_X4_faultOf : am_ok mX4_faultOf 2 := ⟨co_X4_faultOf, in_X4, ⟨by decide +kernel, by decide +kernel⟩, by decide +kernel, by decide, by decide +kernel⟩
theorem co_X4_faultOfCopy : am_T (.code yX4_faultOfCopy cX4_faultOfCopy 5 (some .int)) := ⟨List.mem_append_right _ (List.mem_of_getElem? (i := 631) (by decide +kernel)), by decide +kernel⟩
theorem ok_X4_faultOfCopy : am_ok mX4_faultOfCopy 4 := ⟨co_X4_faultOfCopy, in_X4, ⟨by decide +kernel, by decide +kernel⟩, by decide +kernel, by decide, by decide +kernel⟩
theorem co_X4_spans : am_T (.code yX4_spans cX4_spans 3 (some .boolean)) := ⟨List.mem_append_right _ (List.mem_of_getElem? (i := 251) (by decide +kernel)), by decide +kernel⟩
theorem ok_X4_spans : am_ok mX4_spans 2 := ⟨co_X4_spans, in_X4, ⟨by decide +kernel, by decide +kernel⟩, by decide +kernel, by decide, by decide +kernel⟩
theorem co_X4_at : am_T (.code yX4_at cX4_at 2 (some .int)) := ⟨List.mem_append_right _ (List.mem_of_getElem? (i := 262) (by decide +kernel)), by decide +kernel⟩
theorem ok_X4_at : am_ok mX4_at 1 := ⟨co_X4_at, in_X4, ⟨by decide +kernel, by decide +kernel⟩, by decide +kernel, by decide, by decide +kernel⟩
theorem co_X4_change : am_T (.code yX4_change cX4_change 3 none) := ⟨List.mem_append_right _ (List.mem_of_getElem? (i := 614) (by decide +kernel)), by decide +kernel⟩
theorem ok_X4_change : am_ok mX4_change 2 := ⟨co_X4_change, in_X4, ⟨by decide +kernel, by decide +kernel⟩, by decide +kernel, by decide, by decide +kernel⟩
theorem co_X4_cut : am_T (.code yX4_cut cX4_cut 2 (some .int)) := ⟨List.mem_append_right _ (List.mem_of_getElem? (i := 618) (by decide +kernel)), by decide +kernel⟩
theorem ok_X4_cut : am_ok mX4_cut 1 := ⟨co_X4_cut, in_X4, ⟨by decide +kernel, by decide +kernel⟩, by decide +kernel, by decide, by decide +kernel⟩
theorem co_X5_init : am_T (.code yX5_init cX5_init 1 none) := ⟨List.mem_append_right _ (List.mem_of_getElem? (i := 138) (by decide +kernel)), by decide +kernel⟩
theorem ok_X5_init : am_ok mX5_init 0 := ⟨co_X5_init, in_X5, ⟨by decide +kernel, by decide +kernel⟩, by decide +kernel, by decide, by decide +kernel⟩
theorem co_X5_forget : am_T (.code yX5_forget cX5_forget 1 none) := ⟨List.mem_append_right _ (List.mem_of_getElem? (i := 282) (by decide +kernel)), by decide +kernel⟩
theorem ok_X5_forget : am_ok mX5_forget 0 := ⟨co_X5_forget, in_X5, ⟨by decide +kernel, by decide +kernel⟩, by decide +kernel, by decide, by decide +kernel⟩
end
section
theorem co_X5_goTo : am_T (.code yX5_goTo cX5_goTo 4 none) := ⟨List.mem_append_right _ (List.mem_of_getElem? (i := 570) (by decide +kernel)), by decide +kernel⟩
theorem ok_X5_goTo : am_ok mX5_goTo 2 := ⟨co_X5_goTo, in_X5, ⟨by decide +kernel, by decide +kernel⟩, by decide +kernel, by decide, by decide +kernel⟩
theorem co_X5_begin : am_T (.code yX5_begin cX5_begin 3 none) := ⟨List.mem_append_right _ (List.mem_of_getElem? (i := 574) (by decide +kernel)), by decide +kernel⟩
theorem ok_X5_begin : am_ok mX5_begin 1 := ⟨co_X5_begin, in_X5, ⟨by decide +kernel, by decide +kernel⟩, by decide +kernel, by decide, by decide +kernel⟩
theorem co_X5_stepAll : am_T (.code yX5_stepAll cX5_stepAll 6 none) := ⟨List.mem_append_right _ (List.mem_of_getElem? (i := 578) (by decide +kernel)), by decide +kernel⟩
theorem ok_X5_stepAll : am_ok mX5_stepAll 1 := ⟨co_X5_stepAll, in_X5, ⟨by decide +kernel, by decide +kernel⟩, by decide +kernel, by decide, by decide +kernel⟩
theorem co_X5_howMany : am_T (.code yX5_howMany cX5_howMany 6 (some .int)) := ⟨List.mem_append_right _ (List.mem_of_getElem? (i := 583) (by decide +kernel)), by decide +kernel⟩
theorem ok_X5_howMany : am_ok mX5_howMany 3 := ⟨co_X5_howMany, in_X5, ⟨by decide +kernel, by decide +kernel⟩, by decide +kernel, by decide, by decide +kernel⟩
theorem co_X6_firstFault : am_T (.code yX6_firstFault cX6_firstFault 6 (some .int)) := ⟨List.mem_append_right _ (List.mem_of_getElem? (i := 258) (by decide +kernel)), by decide +kernel⟩
theorem ok_X6_firstFault : am_ok mX6_firstFault 3 := ⟨co_X6_firstFault, in_X6, ⟨by decide +kernel, by decide +kernel⟩, by decide +kernel, by decide, by decide +kernel⟩
theorem co_X6_goesOn : am_T (.code yX6_goesOn cX6_goesOn 3 (some .boolean)) := ⟨List.mem_append_right _ (List.mem_of_getElem? (i := 265) (by decide +kernel)), by decide +kernel⟩
theorem ok_X6_goesOn : am_ok mX6_goesOn 3 := ⟨co_X6_goesOn, in_X6, ⟨by decide +kernel, by decide +kernel⟩, by decide +kernel, by decide, by decide +kernel⟩
theorem co_X6_kindOf : am_T (.code yX6_kindOf cX6_kindOf 1 (some .int)) := ⟨List.mem_append_right _ (List.mem_of_getElem? (i := 268) (by decide +kernel)), by decide +kernel⟩
theorem ok_X6_kindOf : am_ok mX6_kindOf 1 := ⟨co_X6_kindOf, in_X6, ⟨by decide +kernel, by decide +kernel⟩, by decide +kernel, by decide, by decide +kernel⟩
theorem co_X6_take : am_T (.code yX6_take cX6_take 6 none) := ⟨List.mem_append_right _ (List.mem_of_getElem? (i := 271) (by decide +kernel)), by decide +kernel⟩
theorem ok_X6_take : am_ok mX6_take 4 := ⟨co_X6_take, in_X6, ⟨by decide +kernel, by decide +kernel⟩, by decide +kernel, by decide, by decide +kernel⟩
theorem co_X7_init : am_T (.code yX7_init cX7_init 2 none) := ⟨List.mem_append_right _ (List.mem_of_getElem? (i := 18) (by decide +kernel)), by decide +kernel⟩
theorem ok_X7_init : am_ok mX7_init 0 := ⟨co_X7_init, in_X7, ⟨by decide +kernel, by decide +kernel⟩, by decide +kernel, by decide, by decide +kernel⟩
theorem co_X7_ring : am_T (.code yX7_ring cX7_ring 7 (some .int)) := ⟨List.mem_append_right _ (List.mem_of_getElem? (i := 229) (by decide +kernel)), by decide +kernel⟩
theorem ok_X7_ring : am_ok mX7_ring 4 := ⟨co_X7_ring, in_X7, ⟨by decide +kernel, by decide +kernel⟩, by decide +kernel, by decide, by decide +kernel⟩
theorem co_X7_ofPlace : am_T (.code yX7_ofPlace cX7_ofPlace 3 (some .int)) := ⟨List.mem_append_right _ (List.mem_of_getElem? (i := 286) (by decide +kernel)), by decide +kernel⟩
theorem ok_X7_ofPlace : am_ok mX7_ofPlace 2 := ⟨co_X7_ofPlace, in_X7, ⟨by decide +kernel, by decide +kernel⟩, by decide +kernel, by decide, by decide +kernel⟩
theorem co_X7_write : am_T (.code yX7_write cX7_write 4 (some .int)) := ⟨List.mem_append_right _ (List.mem_of_getElem? (i := 305) (by decide +kernel)), by decide +kernel⟩
theorem ok_X7_write : am_ok mX7_write 2 := ⟨co_X7_write, in_X7, ⟨by decide +kernel, by decide +kernel⟩, by decide +kernel, by decide, by decide +kernel⟩
theorem co_X7_steps : am_T (.code yX7_steps cX7_steps 2 (some .int)) := ⟨List.mem_append_right _ (List.mem_of_getElem? (i := 313) (by decide +kernel)), by decide +kernel⟩
theorem ok_X7_steps : am_ok mX7_steps 1 := ⟨co_X7_steps, in_X7, ⟨by decide +kernel, by decide +kernel⟩, by decide +kernel, by decide, by decide +kernel⟩
theorem co_X7_after : am_T (.code yX7_after cX7_after 4 (some .int)) := ⟨List.mem_append_right _ (List.mem_of_getElem? (i := 333) (by decide +kernel)), by decide +kernel⟩
theorem ok_X7_after : am_ok mX7_after 2 := ⟨co_X7_after, in_X7, ⟨by decide +kernel, by decide +kernel⟩, by decide +kernel, by decide, by decide +kernel⟩
theorem co_X7_day : am_T (.code yX7_day cX7_day 7 (some .int)) := ⟨List.mem_append_right _ (List.mem_of_getElem? (i := 423) (by decide +kernel)), by decide +kernel⟩
theorem ok_X7_day : am_ok mX7_day 5 := ⟨co_X7_day, in_X7, ⟨by decide +kernel, by decide +kernel⟩, by decide +kernel, by decide, by decide +kernel⟩
theorem co_X7_ofDay : am_T (.code yX7_ofDay cX7_ofDay 3 (some .int)) := ⟨List.mem_append_right _ (List.mem_of_getElem? (i := 458) (by decide +kernel)), by decide +kernel⟩
theorem ok_X7_ofDay : am_ok mX7_ofDay 1 := ⟨co_X7_ofDay, in_X7, ⟨by decide +kernel, by decide +kernel⟩, by decide +kernel, by decide, by decide +kernel⟩
theorem co_X7_now : am_T (.code yX7_now cX7_now 3 (some .int)) := ⟨List.mem_append_right _ (List.mem_of_getElem? (i := 467) (by decide +kernel)), by decide +kernel⟩
theorem ok_X7_now : am_ok mX7_now 1 := ⟨co_X7_now, in_X7, ⟨by decide +kernel, by decide +kernel⟩, by decide +kernel, by decide, by decide +kernel⟩
theorem co_X7_from : am_T (.code yX7_from cX7_from 3 (some .int)) := ⟨List.mem_append_right _ (List.mem_of_getElem? (i := 473) (by decide +kernel)), by decide +kernel⟩
theorem ok_X7_from : am_ok mX7_from 1 := ⟨co_X7_from, in_X7, ⟨by decide +kernel, by decide +kernel⟩, by decide +kernel, by decide, by decide +kernel⟩
theorem co_X7_rows : am_T (.code yX7_rows cX7_rows 2 (some .int)) := ⟨List.mem_append_right _ (List.mem_of_getElem? (i := 485) (by decide +kernel)), by decide +kernel⟩
theorem ok_X7_rows : am_ok mX7_rows 1 := ⟨co_X7_rows, in_X7, ⟨by decide +kernel, by decide +kernel⟩, by decide +kernel, by decide, by decide +kernel⟩
theorem co_X7_longest : am_T (.code yX7_longest cX7_longest 2 (some .int)) := ⟨List.mem_append_right _ (List.mem_of_getElem? (i := 489) (by decide +kernel)), by decide +kernel⟩
theorem ok_X7_longest : am_ok mX7_longest 1 := ⟨co_X7_longest, in_X7, ⟨by decide +kernel, by decide +kernel⟩, by decide +kernel, by decide, by decide +kernel⟩
theorem co_X7_meet : am_T (.code yX7_meet cX7_meet 5 (some .int)) := ⟨List.mem_append_right _ (List.mem_of_getElem? (i := 493) (by decide +kernel)), by decide +kernel⟩
theorem ok_X7_meet : am_ok mX7_meet 3 := ⟨co_X7_meet, in_X7, ⟨by decide +kernel, by decide +kernel⟩, by decide +kernel, by decide, by decide +kernel⟩
theorem co_X7_few : am_T (.code yX7_few cX7_few 3 (some .int)) := ⟨List.mem_append_right _ (List.mem_of_getElem? (i := 507) (by decide +kernel)), by decide +kernel⟩
theorem ok_X7_few : am_ok mX7_few 1 := ⟨co_X7_few, in_X7, ⟨by decide +kernel, by decide +kernel⟩, by decide +kernel, by decide, by decide +kernel⟩
theorem co_X7_reading : am_T (.code yX7_reading cX7_reading 4 (some .int)) := ⟨List.mem_append_right _ (List.mem_of_getElem? (i := 526) (by decide +kernel)), by decide +kernel⟩
theorem ok_X7_reading : am_ok mX7_reading 3 := ⟨co_X7_reading, in_X7, ⟨by decide +kernel, by decide +kernel⟩, by decide +kernel, by decide, by decide +kernel⟩
theorem co_X7_back : am_T (.code yX7_back cX7_back 2 (some .int)) := ⟨List.mem_append_right _ (List.mem_of_getElem? (i := 537) (by decide +kernel)), by decide +kernel⟩
theorem ok_X7_back : am_ok mX7_back 1 := ⟨co_X7_back, in_X7, ⟨by decide +kernel, by decide +kernel⟩, by decide +kernel, by decide, by decide +kernel⟩
theorem co_X7_kinds : am_T (.code yX7_kinds cX7_kinds 4 (some .int)) := ⟨List.mem_append_right _ (List.mem_of_getElem? (i := 541) (by decide +kernel)), by decide +kernel⟩
theorem ok_X7_kinds : am_ok mX7_kinds 1 := ⟨co_X7_kinds, in_X7, ⟨by decide +kernel, by decide +kernel⟩, by decide +kernel, by decide, by decide +kernel⟩
theorem co_X7_firsts : am_T (.code yX7_firsts cX7_firsts 4 (some .int)) := ⟨List.mem_append_right _ (List.mem_of_getElem? (i := 561) (by decide +kernel)), by decide +kernel⟩
theorem ok_X7_firsts : am_ok mX7_firsts 1 := ⟨co_X7_firsts, in_X7, ⟨by decide +kernel, by decide +kernel⟩, by decide +kernel, by decide, by decide +kernel⟩
theorem co_X7_odds : am_T (.code yX7_odds cX7_odds 7 (some .long)) := ⟨List.mem_append_right _ (List.mem_of_getElem? (i := 565) (by decide +kernel)), by decide +kernel⟩
theorem ok_X7_odds : am_ok mX7_odds 4 := ⟨co_X7_odds, in_X7, ⟨by decide +kernel, by decide +kernel⟩, by decide +kernel, by decide, by decide +kernel⟩
theorem co_X7_sheet : am_T (.code yX7_sheet cX7_sheet 4 (some .int)) := ⟨List.mem_append_right _ (List.mem_of_getElem? (i := 591) (by decide +kernel)), by decide +kernel⟩
theorem ok_X7_sheet : am_ok mX7_sheet 3 := ⟨co_X7_sheet, in_X7, ⟨by decide +kernel, by decide +kernel⟩, by decide +kernel, by decide, by decide +kernel⟩
theorem co_X7_lose : am_T (.code yX7_lose cX7_lose 3 (some .int)) := ⟨List.mem_append_right _ (List.mem_of_getElem? (i := 600) (by decide +kernel)), by decide +kernel⟩
theorem ok_X7_lose : am_ok mX7_lose 1 := ⟨co_X7_lose, in_X7, ⟨by decide +kernel, by decide +kernel⟩, by decide +kernel, by decide, by decide +kernel⟩
theorem co_X7_put : am_T (.code yX7_put cX7_put 4 (some .int)) := ⟨List.mem_append_right _ (List.mem_of_getElem? (i := 609) (by decide +kernel)), by decide +kernel⟩
theorem ok_X7_put : am_ok mX7_put 3 := ⟨co_X7_put, in_X7, ⟨by decide +kernel, by decide +kernel⟩, by decide +kernel, by decide, by decide +kernel⟩
theorem co_X7_cell : am_T (.code yX7_cell cX7_cell 4 (some .long)) := ⟨List.mem_append_right _ (List.mem_of_getElem? (i := 622) (by decide +kernel)), by decide +kernel⟩
theorem ok_X7_cell : am_ok mX7_cell 3 := ⟨co_X7_cell, in_X7, ⟨by decide +kernel, by decide +kernel⟩, by decide +kernel, by decide, by decide +kernel⟩
theorem co_X7_copy : am_T (.code yX7_copy cX7_copy 8 (some .int)) := ⟨List.mem_append_right _ (List.mem_of_getElem? (i := 627) (by decide +kernel)), by decide +kernel⟩
theorem ok_X7_copy : am_ok mX7_copy 5 := ⟨co_X7_copy, in_X7, ⟨by decide +kernel, by decide +kernel⟩, by decide +kernel, by decide, by decide +kernel⟩
theorem co_X7_tell : am_T (.code yX7_tell cX7_tell 2 (some .int)) := ⟨List.mem_append_right _ (List.mem_of_getElem? (i := 636) (by decide +kernel)), by decide +kernel⟩
theorem ok_X7_tell : am_ok mX7_tell 1 := ⟨co_X7_tell, in_X7, ⟨by decide +kernel, by decide +kernel⟩, by decide +kernel, by decide, by decide +kernel⟩
theorem co_X7_tellPlain : am_T (.code yX7_tellPlain cX7_tellPlain 2 (some .int)) := ⟨List.mem_append_right _ (List.mem_of_getElem? (i := 640) (by decide +kernel)), by decide +kernel⟩
theorem ok_X7_tellPlain : am_ok mX7_tellPlain 1 := ⟨co_X7_tellPlain, in_X7, ⟨by decide +kernel, by decide +kernel⟩, by decide +kernel, by decide, by decide +kernel⟩
theorem co_X7_tellFar : am_T (.code yX7_tellFar cX7_tellFar 2 (some .int)) := ⟨List.mem_append_right _ (List.mem_of_getElem? (i := 648) (by decide +kernel)), by decide +kernel⟩
theorem ok_X7_tellFar : am_ok mX7_tellFar 1 := ⟨co_X7_tellFar, in_X7, ⟨by decide +kernel, by decide +kernel⟩, by decide +kernel, by decide, by decide +kernel⟩
theorem co_X7_tellMixed : am_T (.code yX7_tellMixed cX7_tellMixed 3 (some .int)) := ⟨List.mem_append_right _ (List.mem_of_getElem? (i := 652) (by decide +kernel)), by decide +kernel⟩
theorem ok_X7_tellMixed : am_ok mX7_tellMixed 1 := ⟨co_X7_tellMixed, in_X7, ⟨by decide +kernel, by decide +kernel⟩, by decide +kernel, by decide, by decide +kernel⟩
theorem co_X7_call : am_T (.code yX7_call cX7_call 2 (some .int)) := ⟨List.mem_append_right _ (List.mem_of_getElem? (i := 656) (by decide +kernel)), by decide +kernel⟩
theorem ok_X7_call : am_ok mX7_call 1 := ⟨co_X7_call, in_X7, ⟨by decide +kernel, by decide +kernel⟩, by decide +kernel, by decide, by decide +kernel⟩
theorem co_X7_as : am_T (.code yX7_as cX7_as 3 (some .int)) := ⟨List.mem_append_right _ (List.mem_of_getElem? (i := 660) (by decide +kernel)), by decide +kernel⟩
theorem ok_X7_as : am_ok mX7_as 2 := ⟨co_X7_as, in_X7, ⟨by decide +kernel, by decide +kernel⟩, by decide +kernel, by decide, by decide +kernel⟩
theorem co_X7_trace : am_T (.code yX7_trace cX7_trace 1 (some .int)) := ⟨List.mem_append_right _ (List.mem_of_getElem? (i := 664) (by decide +kernel)), by decide +kernel⟩
theorem ok_X7_trace : am_ok mX7_trace 0 := ⟨co_X7_trace, in_X7, ⟨by decide +kernel, by decide +kernel⟩, by decide +kernel, by decide, by decide +kernel⟩
theorem co_X7_fault : am_T (.code yX7_fault cX7_fault 1 (some .int)) := ⟨List.mem_append_right _ (List.mem_of_getElem? (i := 668) (by decide +kernel)), by decide +kernel⟩
theorem ok_X7_fault : am_ok mX7_fault 0 := ⟨co_X7_fault, in_X7, ⟨by decide +kernel, by decide +kernel⟩, by decide +kernel, by decide, by decide +kernel⟩
theorem co_X7_many : am_T (.code yX7_many cX7_many 2 (some .int)) := ⟨List.mem_append_right _ (List.mem_of_getElem? (i := 672) (by decide +kernel)), by decide +kernel⟩
theorem ok_X7_many : am_ok mX7_many 1 := ⟨co_X7_many, in_X7, ⟨by decide +kernel, by decide +kernel⟩, by decide +kernel, by decide, by decide +kernel⟩
theorem co_X7_leave : am_T (.code yX7_leave cX7_leave 2 none) := ⟨List.mem_append_right _ (List.mem_of_getElem? (i := 644) (by decide +kernel)), by decide +kernel⟩
theorem ok_X7_leave : am_ok mX7_leave 1 := ⟨co_X7_leave, in_X7, ⟨by decide +kernel, by decide +kernel⟩, by decide +kernel, by decide, by decide +kernel⟩
theorem co_X7_answerOfFault : am_T (.code yX7_answerOfFault cX7_answerOfFault 1 (some .int)) := ⟨List.mem_append_right _ (List.mem_of_getElem? (i := 255) (by decide +kernel)), by decide +kernel⟩
theorem ok_X7_answerOfFault : am_ok mX7_answerOfFault 0 := ⟨co_X7_answerOfFault, in_X7, ⟨by decide +kernel, by decide +kernel⟩, by decide +kernel, by decide, by decide +kernel⟩
theorem co_X7_isSheet : am_T (.code yX7_isSheet cX7_isSheet 1 (some .boolean)) := ⟨List.mem_append_right _ (List.mem_of_getElem? (i := 232) (by decide +kernel)), by decide +kernel⟩
theorem ok_X7_isSheet : am_ok mX7_isSheet 1 := ⟨co_X7_isSheet, in_X7, ⟨by decide +kernel, by decide +kernel⟩, by decide +kernel, by decide, by decide +kernel⟩
theorem co_X7_isLane : am_T (.code yX7_isLane cX7_isLane 1 (some .boolean)) := ⟨List.mem_append_right _ (List.mem_of_getElem? (i := 235) (by decide +kernel)), by decide +kernel⟩
theorem ok_X7_isLane : am_ok mX7_isLane 1 := ⟨co_X7_isLane, in_X7, ⟨by decide +kernel, by decide +kernel⟩, by decide +kernel, by decide, by decide +kernel⟩
theorem co_X7_isOfDay : am_T (.code yX7_isOfDay cX7_isOfDay 1 (some .boolean)) := ⟨List.mem_append_right _ (List.mem_of_getElem? (i := 426) (by decide +kernel)), by decide +kernel⟩
theorem ok_X7_isOfDay : am_ok mX7_isOfDay 1 := ⟨co_X7_isOfDay, in_X7, ⟨by decide +kernel, by decide +kernel⟩, by decide +kernel, by decide, by decide +kernel⟩
theorem co_X7_isReadable : am_T (.code yX7_isReadable cX7_isReadable 2 (some .boolean)) := ⟨List.mem_append_right _ (List.mem_of_getElem? (i := 529) (by decide +kernel)), by decide +kernel⟩
theorem ok_X7_isReadable : am_ok mX7_isReadable 2 := ⟨co_X7_isReadable, in_X7, ⟨by decide +kernel, by decide +kernel⟩, by decide +kernel, by decide, by decide +kernel⟩
theorem co_X7_commonDivisor : am_T (.code yX7_commonDivisor cX7_commonDivisor 6 (some .int)) := ⟨List.mem_append_right _ (List.mem_of_getElem? (i := 587) (by decide +kernel)), by decide +kernel⟩
theorem ok_X7_commonDivisor : am_ok mX7_commonDivisor 2 := ⟨co_X7_commonDivisor, in_X7, ⟨by decide +kernel, by decide +kernel⟩, by decide +kernel, by decide, by decide +kernel⟩
theorem co_X8_init : am_T (.code yX8_init cX8_init 2 none) := ⟨List.mem_append_right _ (List.mem_of_getElem? (i := 677) (by decide +kernel)), by decide +kernel⟩
theorem ok_X8_init : am_ok mX8_init 0 := ⟨co_X8_init, in_X8, ⟨by decide +kernel, by decide +kernel⟩, by decide +kernel, by decide, by decide +kernel⟩
theorem co_X8_in : am_T (.code yX8_in cX8_in 6 (some .boolean)) := ⟨List.mem_append_right _ (List.mem_of_getElem? (i := 786) (by decide +kernel)), by decide +kernel⟩
theorem ok_X8_in : am_ok mX8_in 3 := ⟨co_X8_in, in_X8, ⟨by decide +kernel, by decide +kernel⟩, by decide +kernel, by decide, by decide +kernel⟩
theorem co_X8_lost : am_T (.code yX8_lost cX8_lost 0 (some .long)) := ⟨List.mem_append_right _ (List.mem_of_getElem? (i := 993) (by decide +kernel)), by decide +kernel⟩
theorem ok_X8_lost : am_ok mX8_lost 0 := ⟨co_X8_lost, in_X8, ⟨by decide +kernel, by decide +kernel⟩, by decide +kernel, by decide, by decide +kernel⟩
theorem co_X8_bits : am_T (.code yX8_bits cX8_bits 3 (some .int)) := ⟨List.mem_append_right _ (List.mem_of_getElem? (i := 962) (by decide +kernel)), by decide +kernel⟩
theorem ok_X8_bits : am_ok mX8_bits 1 := ⟨co_X8_bits, in_X8, ⟨by decide +kernel, by decide +kernel⟩, by decide +kernel, by decide, by decide +kernel⟩
theorem co_X8_share : am_T (.code yX8_share cX8_share 11 (some .long)) := ⟨List.mem_append_right _ (List.mem_of_getElem? (i := 997) (by decide +kernel)), by decide +kernel⟩
theorem ok_X8_share : am_ok mX8_share 3 := ⟨co_X8_share, in_X8, ⟨by decide +kernel, by decide +kernel⟩, by decide +kernel, by decide, by decide +kernel⟩
theorem co_X8_refused : am_T (.code yX8_refused cX8_refused 2 (some .int)) := ⟨List.mem_append_right _ (List.mem_of_getElem? (i := 790) (by decide +kernel)), by decide +kernel⟩
theorem ok_X8_refused : am_ok mX8_refused 1 := ⟨co_X8_refused, in_X8, ⟨by decide +kernel, by decide +kernel⟩, by decide +kernel, by decide, by decide +kernel⟩
theorem co_X8_failed : am_T (.code yX8_failed cX8_failed 2 (some .int)) := ⟨List.mem_append_right _ (List.mem_of_getElem? (i := 799) (by decide +kernel)), by decide +kernel⟩
theorem ok_X8_failed : am_ok mX8_failed 1 := ⟨co_X8_failed, in_X8, ⟨by decide +kernel, by decide +kernel⟩, by decide +kernel, by decide, by decide +kernel⟩
theorem co_X8_failedLong : am_T (.code yX8_failedLong cX8_failedLong 2 (some .long)) := ⟨List.mem_append_right _ (List.mem_of_getElem? (i := 1021) (by decide +kernel)), by decide +kernel⟩
theorem ok_X8_failedLong : am_ok mX8_failedLong 1 := ⟨co_X8_failedLong, in_X8, ⟨by decide +kernel, by decide +kernel⟩, by decide +kernel, by decide, by decide +kernel⟩
theorem co_X8_noPlace : am_T (.code yX8_noPlace cX8_noPlace 2 (some .boolean)) := ⟨List.mem_append_right _ (List.mem_of_getElem? (i := 823) (by decide +kernel)), by decide +kernel⟩
theorem ok_X8_noPlace : am_ok mX8_noPlace 1 := ⟨co_X8_noPlace, in_X8, ⟨by decide +kernel, by decide +kernel⟩, by decide +kernel, by decide, by decide +kernel⟩
theorem co_X8_codeAt : am_T (.code yX8_codeAt cX8_codeAt 3 (some .int)) := ⟨List.mem_append_right _ (List.mem_of_getElem? (i := 810) (by decide +kernel)), by decide +kernel⟩
theorem ok_X8_codeAt : am_ok mX8_codeAt 2 := ⟨co_X8_codeAt, in_X8, ⟨by decide +kernel, by decide +kernel⟩, by decide +kernel, by decide, by decide +kernel⟩
theorem co_X8_readsPlace : am_T (.code yX8_readsPlace cX8_readsPlace 5 (some .boolean)) := ⟨List.mem_append_right _ (List.mem_of_getElem? (i := 815) (by decide +kernel)), by decide +kernel⟩
theorem ok_X8_readsPlace : am_ok mX8_readsPlace 2 := ⟨co_X8_readsPlace, in_X8, ⟨by decide +kernel, by decide +kernel⟩, by decide +kernel, by decide, by decide +kernel⟩
theorem co_X8_readsRing : am_T (.code yX8_readsRing cX8_readsRing 4 (some .boolean)) := ⟨List.mem_append_right _ (List.mem_of_getElem? (i := 806) (by decide +kernel)), by decide +kernel⟩
theorem ok_X8_readsRing : am_ok mX8_readsRing 2 := ⟨co_X8_readsRing, in_X8, ⟨by decide +kernel, by decide +kernel⟩, by decide +kernel, by decide, by decide +kernel⟩
theorem co_X8_cellsBarred : am_T (.code yX8_cellsBarred cX8_cellsBarred 6 (some .int)) := ⟨List.mem_append_right _ (List.mem_of_getElem? (i := 795) (by decide +kernel)), by decide +kernel⟩
theorem ok_X8_cellsBarred : am_ok mX8_cellsBarred 4 := ⟨co_X8_cellsBarred, in_X8, ⟨by decide +kernel, by decide +kernel⟩, by decide +kernel, by decide, by decide +kernel⟩
theorem co_X8_ring : am_T (.code yX8_ring cX8_ring 7 (some .int)) := ⟨List.mem_append_right _ (List.mem_of_getElem? (i := 779) (by decide +kernel)), by decide +kernel⟩
theorem ok_X8_ring : am_ok mX8_ring 4 := ⟨co_X8_ring, in_X8, ⟨by decide +kernel, by decide +kernel⟩, by decide +kernel, by decide, by decide +kernel⟩
theorem co_X8_apart : am_T (.code yX8_apart cX8_apart 2 (some .int)) := ⟨List.mem_append_right _ (List.mem_of_getElem? (i := 834) (by decide +kernel)), by decide +kernel⟩
theorem ok_X8_apart : am_ok mX8_apart 2 := ⟨co_X8_apart, in_X8, ⟨by decide +kernel, by decide +kernel⟩, by decide +kernel, by decide, by decide +kernel⟩
theorem co_X8_becomes : am_T (.code yX8_becomes cX8_becomes 4 (some .int)) := ⟨List.mem_append_right _ (List.mem_of_getElem? (i := 831) (by decide +kernel)), by decide +kernel⟩
theorem ok_X8_becomes : am_ok mX8_becomes 1 := ⟨co_X8_becomes, in_X8, ⟨by decide +kernel, by decide +kernel⟩, by decide +kernel, by decide, by decide +kernel⟩
theorem co_X8_stepsOnce : am_T (.code yX8_stepsOnce cX8_stepsOnce 2 none) := ⟨List.mem_append_right _ (List.mem_of_getElem? (i := 855) (by decide +kernel)), by decide +kernel⟩
theorem ok_X8_stepsOnce : am_ok mX8_stepsOnce 0 := ⟨co_X8_stepsOnce, in_X8, ⟨by decide +kernel, by decide +kernel⟩, by decide +kernel, by decide, by decide +kernel⟩
theorem co_X8_takesNow : am_T (.code yX8_takesNow cX8_takesNow 2 none) := ⟨List.mem_append_right _ (List.mem_of_getElem? (i := 827) (by decide +kernel)), by decide +kernel⟩
theorem ok_X8_takesNow : am_ok mX8_takesNow 0 := ⟨co_X8_takesNow, in_X8, ⟨by decide +kernel, by decide +kernel⟩, by decide +kernel, by decide, by decide +kernel⟩
theorem co_X8_takesRow : am_T (.code yX8_takesRow cX8_takesRow 4 none) := ⟨List.mem_append_right _ (List.mem_of_getElem? (i := 884) (by decide +kernel)), by decide +kernel⟩
theorem ok_X8_takesRow : am_ok mX8_takesRow 1 := ⟨co_X8_takesRow, in_X8, ⟨by decide +kernel, by decide +kernel⟩, by decide +kernel, by decide, by decide +kernel⟩
theorem co_X8_rowAt : am_T (.code yX8_rowAt cX8_rowAt 3 (some .int)) := ⟨List.mem_append_right _ (List.mem_of_getElem? (i := 872) (by decide +kernel)), by decide +kernel⟩
theorem ok_X8_rowAt : am_ok mX8_rowAt 0 := ⟨co_X8_rowAt, in_X8, ⟨by decide +kernel, by decide +kernel⟩, by decide +kernel, by decide, by decide +kernel⟩
theorem co_X8_rowNow : am_T (.code yX8_rowNow cX8_rowNow 1 (some .int)) := ⟨List.mem_append_right _ (List.mem_of_getElem? (i := 868) (by decide +kernel)), by decide +kernel⟩
theorem ok_X8_rowNow : am_ok mX8_rowNow 0 := ⟨co_X8_rowNow, in_X8, ⟨by decide +kernel, by decide +kernel⟩, by decide +kernel, by decide, by decide +kernel⟩
theorem co_X8_allRows : am_T (.code yX8_allRows cX8_allRows 3 (some .int)) := ⟨List.mem_append_right _ (List.mem_of_getElem? (i := 880) (by decide +kernel)), by decide +kernel⟩
theorem ok_X8_allRows : am_ok mX8_allRows 0 := ⟨co_X8_allRows, in_X8, ⟨by decide +kernel, by decide +kernel⟩, by decide +kernel, by decide, by decide +kernel⟩
theorem co_X8_ofPlace : am_T (.code yX8_ofPlace cX8_ofPlace 3 (some .int)) := ⟨List.mem_append_right _ (List.mem_of_getElem? (i := 819) (by decide +kernel)), by decide +kernel⟩
theorem ok_X8_ofPlace : am_ok mX8_ofPlace 2 := ⟨co_X8_ofPlace, in_X8, ⟨by decide +kernel, by decide +kernel⟩, by decide +kernel, by decide, by decide +kernel⟩
theorem co_X8_isNumber : am_T (.code yX8_isNumber cX8_isNumber 2 (some .boolean)) := ⟨List.mem_append_right _ (List.mem_of_getElem? (i := 842) (by decide +kernel)), by decide +kernel⟩
theorem ok_X8_isNumber : am_ok mX8_isNumber 1 := ⟨co_X8_isNumber, in_X8, ⟨by decide +kernel, by decide +kernel⟩, by decide +kernel, by decide, by decide +kernel⟩
theorem co_X8_write : am_T (.code yX8_write cX8_write 4 (some .int)) := ⟨List.mem_append_right _ (List.mem_of_getElem? (i := 838) (by decide +kernel)), by decide +kernel⟩
theorem ok_X8_write : am_ok mX8_write 2 := ⟨co_X8_write, in_X8, ⟨by decide +kernel, by decide +kernel⟩, by decide +kernel, by decide, by decide +kernel⟩
theorem co_X8_zeros : am_T (.code yX8_zeros cX8_zeros 3 (some .int)) := ⟨List.mem_append_right _ (List.mem_of_getElem? (i := 859) (by decide +kernel)), by decide +kernel⟩
theorem ok_X8_zeros : am_ok mX8_zeros 0 := ⟨co_X8_zeros, in_X8, ⟨by decide +kernel, by decide +kernel⟩, by decide +kernel, by decide, by decide +kernel⟩
theorem co_X8_doesSteps : am_T (.code yX8_doesSteps cX8_doesSteps 3 none) := ⟨List.mem_append_right _ (List.mem_of_getElem? (i := 851) (by decide +kernel)), by decide +kernel⟩
theorem ok_X8_doesSteps : am_ok mX8_doesSteps 1 := ⟨co_X8_doesSteps, in_X8, ⟨by decide +kernel, by decide +kernel⟩, by decide +kernel, by decide, by decide +kernel⟩
theorem co_X8_steps : am_T (.code yX8_steps cX8_steps 2 (some .int)) := ⟨List.mem_append_right _ (List.mem_of_getElem? (i := 846) (by decide +kernel)), by decide +kernel⟩
theorem ok_X8_steps : am_ok mX8_steps 1 := ⟨co_X8_steps, in_X8, ⟨by decide +kernel, by decide +kernel⟩, by decide +kernel, by decide, by decide +kernel⟩
theorem co_X8_takesAway : am_T (.code yX8_takesAway cX8_takesAway 2 none) := ⟨List.mem_append_right _ (List.mem_of_getElem? (i := 888) (by decide +kernel)), by decide +kernel⟩
theorem ok_X8_takesAway : am_ok mX8_takesAway 1 := ⟨co_X8_takesAway, in_X8, ⟨by decide +kernel, by decide +kernel⟩, by decide +kernel, by decide, by decide +kernel⟩
theorem co_X8_tables : am_T (.code yX8_tables cX8_tables 4 none) := ⟨List.mem_append_right _ (List.mem_of_getElem? (i := 876) (by decide +kernel)), by decide +kernel⟩
theorem ok_X8_tables : am_ok mX8_tables 0 := ⟨co_X8_tables, in_X8, ⟨by decide +kernel, by decide +kernel⟩, by decide +kernel, by decide, by decide +kernel⟩
theorem co_X8_roundFrom : am_T (.code yX8_roundFrom cX8_roundFrom 4 (some .int)) := ⟨List.mem_append_right _ (List.mem_of_getElem? (i := 900) (by decide +kernel)), by decide +kernel⟩
theorem ok_X8_roundFrom : am_ok mX8_roundFrom 1 := ⟨co_X8_roundFrom, in_X8, ⟨by decide +kernel, by decide +kernel⟩, by decide +kernel, by decide, by decide +kernel⟩
theorem co_X8_behind : am_T (.code yX8_behind cX8_behind 7 (some .int)) := ⟨List.mem_append_right _ (List.mem_of_getElem? (i := 896) (by decide +kernel)), by decide +kernel⟩
theorem ok_X8_behind : am_ok mX8_behind 2 := ⟨co_X8_behind, in_X8, ⟨by decide +kernel, by decide +kernel⟩, by decide +kernel, by decide, by decide +kernel⟩
theorem co_X8_roundOf : am_T (.code yX8_roundOf cX8_roundOf 2 (some .int)) := ⟨List.mem_append_right _ (List.mem_of_getElem? (i := 892) (by decide +kernel)), by decide +kernel⟩
theorem ok_X8_roundOf : am_ok mX8_roundOf 1 := ⟨co_X8_roundOf, in_X8, ⟨by decide +kernel, by decide +kernel⟩, by decide +kernel, by decide, by decide +kernel⟩
theorem co_X8_after : am_T (.code yX8_after cX8_after 7 (some .int)) := ⟨List.mem_append_right _ (List.mem_of_getElem? (i := 863) (by decide +kernel)), by decide +kernel⟩
theorem ok_X8_after : am_ok mX8_after 2 := ⟨co_X8_after, in_X8, ⟨by decide +kernel, by decide +kernel⟩, by decide +kernel, by decide, by decide +kernel⟩
theorem co_X8_sumNow : am_T (.code yX8_sumNow cX8_sumNow 3 (some .int)) := ⟨List.mem_append_right _ (List.mem_of_getElem? (i := 922) (by decide +kernel)), by decide +kernel⟩
theorem ok_X8_sumNow : am_ok mX8_sumNow 0 := ⟨co_X8_sumNow, in_X8, ⟨by decide +kernel, by decide +kernel⟩, by decide +kernel, by decide, by decide +kernel⟩
theorem co_X8_doesPair : am_T (.code yX8_doesPair cX8_doesPair 3 (some .boolean)) := ⟨List.mem_append_right _ (List.mem_of_getElem? (i := 917) (by decide +kernel)), by decide +kernel⟩
theorem ok_X8_doesPair : am_ok mX8_doesPair 2 := ⟨co_X8_doesPair, in_X8, ⟨by decide +kernel, by decide +kernel⟩, by decide +kernel, by decide, by decide +kernel⟩
theorem co_X8_tailNow : am_T (.code yX8_tailNow cX8_tailNow 2 (some .int)) := ⟨List.mem_append_right _ (List.mem_of_getElem? (i := 926) (by decide +kernel)), by decide +kernel⟩
theorem ok_X8_tailNow : am_ok mX8_tailNow 0 := ⟨co_X8_tailNow, in_X8, ⟨by decide +kernel, by decide +kernel⟩, by decide +kernel, by decide, by decide +kernel⟩
theorem co_X8_dayOf : am_T (.code yX8_dayOf cX8_dayOf 6 (some .int)) := ⟨List.mem_append_right _ (List.mem_of_getElem? (i := 913) (by decide +kernel)), by decide +kernel⟩
theorem ok_X8_dayOf : am_ok mX8_dayOf 3 := ⟨co_X8_dayOf, in_X8, ⟨by decide +kernel, by decide +kernel⟩, by decide +kernel, by decide, by decide +kernel⟩
theorem co_X8_day : am_T (.code yX8_day cX8_day 11 (some .int)) := ⟨List.mem_append_right _ (List.mem_of_getElem? (i := 904) (by decide +kernel)), by decide +kernel⟩
theorem ok_X8_day : am_ok mX8_day 5 := ⟨co_X8_day, in_X8, ⟨by decide +kernel, by decide +kernel⟩, by decide +kernel, by decide, by decide +kernel⟩
theorem co_X8_now : am_T (.code yX8_now cX8_now 3 (some .int)) := ⟨List.mem_append_right _ (List.mem_of_getElem? (i := 930) (by decide +kernel)), by decide +kernel⟩
theorem ok_X8_now : am_ok mX8_now 1 := ⟨co_X8_now, in_X8, ⟨by decide +kernel, by decide +kernel⟩, by decide +kernel, by decide, by decide +kernel⟩
theorem co_X8_from : am_T (.code yX8_from cX8_from 6 (some .int)) := ⟨List.mem_append_right _ (List.mem_of_getElem? (i := 934) (by decide +kernel)), by decide +kernel⟩
theorem ok_X8_from : am_ok mX8_from 1 := ⟨co_X8_from, in_X8, ⟨by decide +kernel, by decide +kernel⟩, by decide +kernel, by decide, by decide +kernel⟩
theorem co_X8_rounds : am_T (.code yX8_rounds cX8_rounds 6 (some .int)) := ⟨List.mem_append_right _ (List.mem_of_getElem? (i := 943) (by decide +kernel)), by decide +kernel⟩
theorem ok_X8_rounds : am_ok mX8_rounds 0 := ⟨co_X8_rounds, in_X8, ⟨by decide +kernel, by decide +kernel⟩, by decide +kernel, by decide, by decide +kernel⟩
theorem co_X8_rows : am_T (.code yX8_rows cX8_rows 6 (some .int)) := ⟨List.mem_append_right _ (List.mem_of_getElem? (i := 939) (by decide +kernel)), by decide +kernel⟩
theorem ok_X8_rows : am_ok mX8_rows 1 := ⟨co_X8_rows, in_X8, ⟨by decide +kernel, by decide +kernel⟩, by decide +kernel, by decide, by decide +kernel⟩
theorem co_X8_longest : am_T (.code yX8_longest cX8_longest 4 (some .int)) := ⟨List.mem_append_right _ (List.mem_of_getElem? (i := 947) (by decide +kernel)), by decide +kernel⟩
theorem ok_X8_longest : am_ok mX8_longest 1 := ⟨co_X8_longest, in_X8, ⟨by decide +kernel, by decide +kernel⟩, by decide +kernel, by decide, by decide +kernel⟩
theorem co_X8_meet : am_T (.code yX8_meet cX8_meet 8 (some .int)) := ⟨List.mem_append_right _ (List.mem_of_getElem? (i := 951) (by decide +kernel)), by decide +kernel⟩
theorem ok_X8_meet : am_ok mX8_meet 3 := ⟨co_X8_meet, in_X8, ⟨by decide +kernel, by decide +kernel⟩, by decide +kernel, by decide, by decide +kernel⟩
theorem co_X8_unlikeNow : am_T (.code yX8_unlikeNow cX8_unlikeNow 4 (some .int)) := ⟨List.mem_append_right _ (List.mem_of_getElem? (i := 959) (by decide +kernel)), by decide +kernel⟩
theorem ok_X8_unlikeNow : am_ok mX8_unlikeNow 1 := ⟨co_X8_unlikeNow, in_X8, ⟨by decide +kernel, by decide +kernel⟩, by decide +kernel, by decide, by decide +kernel⟩
theorem co_X8_few : am_T (.code yX8_few cX8_few 6 (some .int)) := ⟨List.mem_append_right _ (List.mem_of_getElem? (i := 955) (by decide +kernel)), by decide +kernel⟩
theorem ok_X8_few : am_ok mX8_few 1 := ⟨co_X8_few, in_X8, ⟨by decide +kernel, by decide +kernel⟩, by decide +kernel, by decide, by decide +kernel⟩
theorem co_X8_reading : am_T (.code yX8_reading cX8_reading 4 (some .int)) := ⟨List.mem_append_right _ (List.mem_of_getElem? (i := 966) (by decide +kernel)), by decide +kernel⟩
theorem ok_X8_reading : am_ok mX8_reading 3 := ⟨co_X8_reading, in_X8, ⟨by decide +kernel, by decide +kernel⟩, by decide +kernel, by decide, by decide +kernel⟩
theorem co_X8_back : am_T (.code yX8_back cX8_back 2 (some .int)) := ⟨List.mem_append_right _ (List.mem_of_getElem? (i := 970) (by decide +kernel)), by decide +kernel⟩
theorem ok_X8_back : am_ok mX8_back 1 := ⟨co_X8_back, in_X8, ⟨by decide +kernel, by decide +kernel⟩, by decide +kernel, by decide, by decide +kernel⟩
theorem co_X8_isSo : am_T (.code yX8_isSo cX8_isSo 3 (some .boolean)) := ⟨List.mem_append_right _ (List.mem_of_getElem? (i := 982) (by decide +kernel)), by decide +kernel⟩
theorem ok_X8_isSo : am_ok mX8_isSo 1 := ⟨co_X8_isSo, in_X8, ⟨by decide +kernel, by decide +kernel⟩, by decide +kernel, by decide, by decide +kernel⟩
theorem co_X8_areSo : am_T (.code yX8_areSo cX8_areSo 3 (some .boolean)) := ⟨List.mem_append_right _ (List.mem_of_getElem? (i := 978) (by decide +kernel)), by decide +kernel⟩
theorem ok_X8_areSo : am_ok mX8_areSo 0 := ⟨co_X8_areSo, in_X8, ⟨by decide +kernel, by decide +kernel⟩, by decide +kernel, by decide, by decide +kernel⟩
theorem co_X8_kinds : am_T (.code yX8_kinds cX8_kinds 5 (some .int)) := ⟨List.mem_append_right _ (List.mem_of_getElem? (i := 974) (by decide +kernel)), by decide +kernel⟩
theorem ok_X8_kinds : am_ok mX8_kinds 1 := ⟨co_X8_kinds, in_X8, ⟨by decide +kernel, by decide +kernel⟩, by decide +kernel, by decide, by decide +kernel⟩
theorem co_X8_firsts : am_T (.code yX8_firsts cX8_firsts 5 (some .int)) := ⟨List.mem_append_right _ (List.mem_of_getElem? (i := 986) (by decide +kernel)), by decide +kernel⟩
theorem ok_X8_firsts : am_ok mX8_firsts 1 := ⟨co_X8_firsts, in_X8, ⟨by decide +kernel, by decide +kernel⟩, by decide +kernel, by decide, by decide +kernel⟩
theorem co_X8_odds : am_T (.code yX8_odds cX8_odds 8 (some .long)) := ⟨List.mem_append_right _ (List.mem_of_getElem? (i := 990) (by decide +kernel)), by decide +kernel⟩
theorem ok_X8_odds : am_ok mX8_odds 4 := ⟨co_X8_odds, in_X8, ⟨by decide +kernel, by decide +kernel⟩, by decide +kernel, by decide, by decide +kernel⟩
theorem co_X8_noSheet : am_T (.code yX8_noSheet cX8_noSheet 1 (some .boolean)) := ⟨List.mem_append_right _ (List.mem_of_getElem? (i := 782) (by decide +kernel)), by decide +kernel⟩
theorem ok_X8_noSheet : am_ok mX8_noSheet 1 := ⟨co_X8_noSheet, in_X8, ⟨by decide +kernel, by decide +kernel⟩, by decide +kernel, by decide, by decide +kernel⟩
theorem co_X8_sheet : am_T (.code yX8_sheet cX8_sheet 5 (some .int)) := ⟨List.mem_append_right _ (List.mem_of_getElem? (i := 1001) (by decide +kernel)), by decide +kernel⟩
theorem ok_X8_sheet : am_ok mX8_sheet 3 := ⟨co_X8_sheet, in_X8, ⟨by decide +kernel, by decide +kernel⟩, by decide +kernel, by decide, by decide +kernel⟩
theorem co_X8_lose : am_T (.code yX8_lose cX8_lose 3 (some .int)) := ⟨List.mem_append_right _ (List.mem_of_getElem? (i := 1005) (by decide +kernel)), by decide +kernel⟩
theorem ok_X8_lose : am_ok mX8_lose 1 := ⟨co_X8_lose, in_X8, ⟨by decide +kernel, by decide +kernel⟩, by decide +kernel, by decide, by decide +kernel⟩
theorem co_X8_noCell : am_T (.code yX8_noCell cX8_noCell 3 (some .int)) := ⟨List.mem_append_right _ (List.mem_of_getElem? (i := 1013) (by decide +kernel)), by decide +kernel⟩
theorem ok_X8_noCell : am_ok mX8_noCell 2 := ⟨co_X8_noCell, in_X8, ⟨by decide +kernel, by decide +kernel⟩, by decide +kernel, by decide, by decide +kernel⟩
theorem co_X8_put : am_T (.code yX8_put cX8_put 4 (some .int)) := ⟨List.mem_append_right _ (List.mem_of_getElem? (i := 1009) (by decide +kernel)), by decide +kernel⟩
theorem ok_X8_put : am_ok mX8_put 3 := ⟨co_X8_put, in_X8, ⟨by decide +kernel, by decide +kernel⟩, by decide +kernel, by decide, by decide +kernel⟩
theorem co_X8_cell : am_T (.code yX8_cell cX8_cell 4 (some .long)) := ⟨List.mem_append_right _ (List.mem_of_getElem? (i := 1017) (by decide +kernel)), by decide +kernel⟩
theorem ok_X8_cell : am_ok mX8_cell 3 := ⟨co_X8_cell, in_X8, ⟨by decide +kernel, by decide +kernel⟩, by decide +kernel, by decide, by decide +kernel⟩
theorem co_X8_isBeyond : am_T (.code yX8_isBeyond cX8_isBeyond 4 (some .boolean)) := ⟨List.mem_append_right _ (List.mem_of_getElem? (i := 802) (by decide +kernel)), by decide +kernel⟩
theorem ok_X8_isBeyond : am_ok mX8_isBeyond 3 := ⟨co_X8_isBeyond, in_X8, ⟨by decide +kernel, by decide +kernel⟩, by decide +kernel, by decide, by decide +kernel⟩
theorem co_X8_copy : am_T (.code yX8_copy cX8_copy 7 (some .int)) := ⟨List.mem_append_right _ (List.mem_of_getElem? (i := 1025) (by decide +kernel)), by decide +kernel⟩
theorem ok_X8_copy : am_ok mX8_copy 5 := ⟨co_X8_copy, in_X8, ⟨by decide +kernel, by decide +kernel⟩, by decide +kernel, by decide, by decide +kernel⟩
theorem co_X8_traced : am_T (.code yX8_traced cX8_traced 2 none) := ⟨List.mem_append_right _ (List.mem_of_getElem? (i := 1033) (by decide +kernel)), by decide +kernel⟩
theorem ok_X8_traced : am_ok mX8_traced 1 := ⟨co_X8_traced, in_X8, ⟨by decide +kernel, by decide +kernel⟩, by decide +kernel, by decide, by decide +kernel⟩
theorem co_X8_tell : am_T (.code yX8_tell cX8_tell 4 (some .int)) := ⟨List.mem_append_right _ (List.mem_of_getElem? (i := 1029) (by decide +kernel)), by decide +kernel⟩
theorem ok_X8_tell : am_ok mX8_tell 1 := ⟨co_X8_tell, in_X8, ⟨by decide +kernel, by decide +kernel⟩, by decide +kernel, by decide, by decide +kernel⟩
theorem co_X8_call : am_T (.code yX8_call cX8_call 2 (some .int)) := ⟨List.mem_append_right _ (List.mem_of_getElem? (i := 1037) (by decide +kernel)), by decide +kernel⟩
theorem ok_X8_call : am_ok mX8_call 1 := ⟨co_X8_call, in_X8, ⟨by decide +kernel, by decide +kernel⟩, by decide +kernel, by decide, by decide +kernel⟩
theorem co_X8_as : am_T (.code yX8_as cX8_as 3 (some .int)) := ⟨List.mem_append_right _ (List.mem_of_getElem? (i := 1041) (by decide +kernel)), by decide +kernel⟩
theorem ok_X8_as : am_ok mX8_as 2 := ⟨co_X8_as, in_X8, ⟨by decide +kernel, by decide +kernel⟩, by decide +kernel, by decide, by decide +kernel⟩
theorem co_X8_trace : am_T (.code yX8_trace cX8_trace 1 (some .int)) := ⟨List.mem_append_right _ (List.mem_of_getElem? (i := 1045) (by decide +kernel)), by decide +kernel⟩
theorem ok_X8_trace : am_ok mX8_trace 0 := ⟨co_X8_trace, in_X8, ⟨by decide +kernel, by decide +kernel⟩, by decide +kernel, by decide, by decide +kernel⟩
theorem co_X8_fault : am_T (.code yX8_fault cX8_fault 1 (some .int)) := ⟨List.mem_append_right _ (List.mem_of_getElem? (i := 1049) (by decide +kernel)), by decide +kernel⟩
theorem ok_X8_fault : am_ok mX8_fault 0 := ⟨co_X8_fault, in_X8, ⟨by decide +kernel, by decide +kernel⟩, by decide +kernel, by decide, by decide +kernel⟩
theorem co_X8_many : am_T (.code yX8_many cX8_many 2 (some .int)) := ⟨List.mem_append_right _ (List.mem_of_getElem? (i := 1053) (by decide +kernel)), by decide +kernel⟩
theorem ok_X8_many : am_ok mX8_many 1 := ⟨co_X8_many, in_X8, ⟨by decide +kernel, by decide +kernel⟩, by decide +kernel, by decide, by decide +kernel⟩
theorem co_J6_bitCount_0f7a4 : am_T (.code yJ6_bitCount_0f7a4 cJ6_bitCount_0f7a4 1 (some .int)) := ⟨List.mem_append_right _ (List.mem_of_getElem? (i := 518) (by decide +kernel)), by decide +kernel⟩
theorem ok_J6_bitCount_0f7a4 : am_ok mJ6_bitCount_0f7a4 1 := ⟨co_J6_bitCount_0f7a4, in_J6, ⟨by decide +kernel, by decide +kernel⟩, by decide +kernel, by decide, by decide +kernel⟩
theorem co_J9_abs_0f7a4 : am_T (.code yJ9_abs_0f7a4 cJ9_abs_0f7a4 1 (some .int)) := ⟨List.mem_append_right _ (List.mem_of_getElem? (i := 301) (by decide +kernel)), by decide +kernel⟩
theorem co_J9_max_7cf53 : am_T (.code yJ9_max_7cf53 cJ9_max_7cf53 2 (some .int)) := ⟨List.mem_append_right _ (List.mem_of_getElem? (i := 552) (by decide +kernel)), by decide +kernel⟩
theorem co_J9_min_7cf53 : am_T (.code yJ9_min_7cf53 cJ9_min_7cf53 2 (some .int)) := ⟨List.mem_append_right _ (List.mem_of_getElem? (i := 274) (by decide +kernel)), by decide +kernel⟩
theorem co_J7_fill_53178 : am_T (.code yJ7_fill_53178 cJ7_fill_53178 4 none) := ⟨List.mem_append_right _ (List.mem_of_getElem? (i := 354) (by decide +kernel)), by decide +kernel⟩
theorem ok_J7_fill_53178 : am_ok mJ7_fill_53178 2 := ⟨co_J7_fill_53178, in_J7, ⟨by decide +kernel, by decide +kernel⟩, by decide +kernel, by decide, by decide +kernel⟩
theorem cl_L_7 : am_T (.classLink RL 7 RX7) := ⟨List.mem_append_right _ (List.mem_of_getElem? (i := 14) (by decide +kernel)), by decide +kernel⟩
theorem cl_X7_11 : am_T (.classLink RX7 11 RX4) := ⟨List.mem_append_right _ (List.mem_of_getElem? (i := 22) (by decide +kernel)), by decide +kernel⟩
theorem cl_X7_18 : am_T (.classLink RX7 18 RX3) := ⟨List.mem_append_right _ (List.mem_of_getElem? (i := 41) (by decide +kernel)), by decide +kernel⟩
theorem cl_X7_28 : am_T (.classLink RX7 28 RX0) := ⟨List.mem_append_right _ (List.mem_of_getElem? (i := 75) (by decide +kernel)), by decide +kernel⟩
theorem cl_X0_9 : am_T (.classLink RX0 9 RX3) := ⟨List.mem_append_right _ (List.mem_of_getElem? (i := 81) (by decide +kernel)), by decide +kernel⟩
theorem cl_X7_35 : am_T (.classLink RX7 35 RX5) := ⟨List.mem_append_right _ (List.mem_of_getElem? (i := 134) (by decide +kernel)), by decide +kernel⟩
theorem cl_X7_42 : am_T (.classLink RX7 42 RX2) := ⟨List.mem_append_right _ (List.mem_of_getElem? (i := 156) (by decide +kernel)), by decide +kernel⟩
theorem cl_X7_49 : am_T (.classLink RX7 49 RX1) := ⟨List.mem_append_right _ (List.mem_of_getElem? (i := 176) (by decide +kernel)), by decide +kernel⟩
theorem cl_L_10 : am_T (.classLink RL 10 RX8) := ⟨List.mem_append_right _ (List.mem_of_getElem? (i := 673) (by decide +kernel)), by decide +kernel⟩
theorem ia_X7 : am_T (.instantiable RX7 10) := ⟨List.mem_append_right _ (List.mem_of_getElem? (i := 15) (by decide +kernel)), by decide +kernel⟩
theorem ia_X4 : am_T (.instantiable RX4 3) := ⟨List.mem_append_right _ (List.mem_of_getElem? (i := 24) (by decide +kernel)), by decide +kernel⟩
theorem ia_X3 : am_T (.instantiable RX3 5) := ⟨List.mem_append_right _ (List.mem_of_getElem? (i := 42) (by decide +kernel)), by decide +kernel⟩
theorem ia_X0 : am_T (.instantiable RX0 14) := ⟨List.mem_append_right _ (List.mem_of_getElem? (i := 76) (by decide +kernel)), by decide +kernel⟩
theorem ia_X5 : am_T (.instantiable RX5 5) := ⟨List.mem_append_right _ (List.mem_of_getElem? (i := 135) (by decide +kernel)), by decide +kernel⟩
theorem ia_X2 : am_T (.instantiable RX2 4) := ⟨List.mem_append_right _ (List.mem_of_getElem? (i := 157) (by decide +kernel)), by decide +kernel⟩
theorem ia_X1 : am_T (.instantiable RX1 3) := ⟨List.mem_append_right _ (List.mem_of_getElem? (i := 177) (by decide +kernel)), by decide +kernel⟩
theorem ia_X8 : am_T (.instantiable RX8 32) := ⟨List.mem_append_right _ (List.mem_of_getElem? (i := 674) (by decide +kernel)), by decide +kernel⟩
theorem kc_J6_265 : am_T (.constant RJ6 265 1431655765) := ⟨List.mem_append_right _ (List.mem_of_getElem? (i := 519) (by decide +kernel)), by decide +kernel⟩
theorem kc_J6_266 : am_T (.constant RJ6 266 858993459) := ⟨List.mem_append_right _ (List.mem_of_getElem? (i := 520) (by decide +kernel)), by decide +kernel⟩
theorem kc_J6_267 : am_T (.constant RJ6 267 252645135) := ⟨List.mem_append_right _ (List.mem_of_getElem? (i := 521) (by decide +kernel)), by decide +kernel⟩
theorem kl_X7_126 : am_T (.constantLong RX7 126 (1000000000000000000)) := ⟨List.mem_append_right _ (List.mem_of_getElem? (i := 334) (by decide +kernel)), by decide +kernel⟩
theorem kl_X7_235 : am_T (.constantLong RX7 235 (-9223372036854775808)) := ⟨List.mem_append_right _ (List.mem_of_getElem? (i := 566) (by decide +kernel)), by decide +kernel⟩
theorem kl_X8_254 : am_T (.constantLong RX8 254 (3)) := ⟨List.mem_append_right _ (List.mem_of_getElem? (i := 783) (by decide +kernel)), by decide +kernel⟩
theorem kl_X8_97 : am_T (.constantLong RX8 97 (2)) := ⟨List.mem_append_right _ (List.mem_of_getElem? (i := 791) (by decide +kernel)), by decide +kernel⟩
theorem kl_X8_99 : am_T (.constantLong RX8 99 (6)) := ⟨List.mem_append_right _ (List.mem_of_getElem? (i := 811) (by decide +kernel)), by decide +kernel⟩
theorem kl_X8_158 : am_T (.constantLong RX8 158 (99)) := ⟨List.mem_append_right _ (List.mem_of_getElem? (i := 847) (by decide +kernel)), by decide +kernel⟩
theorem kl_X8_189 : am_T (.constantLong RX8 189 (1000000000000000000)) := ⟨List.mem_append_right _ (List.mem_of_getElem? (i := 864) (by decide +kernel)), by decide +kernel⟩
theorem kl_X8_218 : am_T (.constantLong RX8 218 (20)) := ⟨List.mem_append_right _ (List.mem_of_getElem? (i := 905) (by decide +kernel)), by decide +kernel⟩
theorem kl_X8_220 : am_T (.constantLong RX8 220 (4)) := ⟨List.mem_append_right _ (List.mem_of_getElem? (i := 906) (by decide +kernel)), by decide +kernel⟩
theorem kl_X8_222 : am_T (.constantLong RX8 222 (10)) := ⟨List.mem_append_right _ (List.mem_of_getElem? (i := 907) (by decide +kernel)), by decide +kernel⟩
theorem kl_X8_224 : am_T (.constantLong RX8 224 (14)) := ⟨List.mem_append_right _ (List.mem_of_getElem? (i := 908) (by decide +kernel)), by decide +kernel⟩
theorem kl_X8_226 : am_T (.constantLong RX8 226 (5)) := ⟨List.mem_append_right _ (List.mem_of_getElem? (i := 909) (by decide +kernel)), by decide +kernel⟩
theorem kl_X8_232 : am_T (.constantLong RX8 232 (-1)) := ⟨List.mem_append_right _ (List.mem_of_getElem? (i := 935) (by decide +kernel)), by decide +kernel⟩
theorem kl_X8_67 : am_T (.constantLong RX8 67 (-9223372036854775808)) := ⟨List.mem_append_right _ (List.mem_of_getElem? (i := 994) (by decide +kernel)), by decide +kernel⟩
theorem kl_L_32 : am_T (.constantLong RL 32 (4294967295)) := ⟨List.mem_append_right _ (List.mem_of_getElem? (i := 1054) (by decide +kernel)), by decide +kernel⟩
theorem ao_in : Cond.arrayOver (.object RX4) ∈ lw_tbl := List.mem_append_right _ (List.mem_of_getElem? (i := 23) (by decide +kernel))
theorem ac_int : am_T (.arrayClass .int) := ⟨List.mem_append_right _ (List.mem_of_getElem? (i := 40) (by decide +kernel)), by decide +kernel⟩
theorem am_nest_in : ∀ w ∈ am_nest, w ∈ lw_tbl := fun w hw => List.mem_append_right _ (am_goodIn_r am_nest [25, 43, 77, 82, 136, 158, 178] (by decide +kernel) w hw)
end
section
/-! Math.abs, max, min -/
section AMR
variable {M : am_M} {bc bs pc pc' idx : Nat} {ls : List (Option am_V)} {st : List am_V} {ρ h : am_H} {Q : am_Q}
theorem am_mabs {a : Int} (hd : decode M.2.1 pc = .ok (.invokestatic idx, 3)) (hp : pc + 3 = pc') (lk : am_T (.methodLink M.1.cls idx yJ9_abs_0f7a4)) (hlev : 1 ≤ M.2.2.2.2.1) (hrest : st.length ≤ 4) (hr : am_okI (-a)) (kk : am_WP M bc bs pc' ls (am_I (if 0 ≤ a then a else -a) :: st) ρ h Q) : am_WP M bc bs pc ls (am_I a :: st) ρ h Q := by
  subst hp
  intro p l e R s m args below meth c Z D cI cS A n0 ad0 Cx ad H locs cells slots lc rl os ol hl hcs hss
  have hR : R.frames = M.2.2.2.2.1 := Cx.1.2.2.2.2.2.1
  have hL : R.locals = 36 * M.2.2.2.2.1 := Cx.1.2.2.2.2.2.2.1
  have ka : am_okI a := am_okh os
  have hrm := am_room (ad := ad) hrest
  refine va_mabs (x := Int32.ofInt a) Cx.1.1.1 Cx.1.1.2.1 (Cx.1.1.2.2.1.trans hl.1.symm) Cx.1.1.2.2.2 (Cx.1.2.1 _ lk) (Cx.1.2.1 _ sm_J9_abs_0f7a4) (Cx.1.2.1 _ in_J9) (Cx.1.2.1 _ co_J9_abs_0f7a4) (by omega) (by omega) (by omega) (by omega) hd ?_
  have kw := kk p l e R s m args below meth c Z D cI cS A n0 ad0 Cx ad H locs cells slots lc rl (am_okI1 (by split <;> assumption) (am_okt os)) ol hl hcs hss
  have e9 : (if 0 ≤ Int32.ofInt a then Int32.ofInt a else 0 - Int32.ofInt a) = Int32.ofInt (if 0 ≤ a then a else -a) := by
    by_cases h0 : 0 ≤ a
    · rw [if_pos ((am_ge0 ka).mpr h0), if_pos h0]
    · rw [if_neg (fun z => h0 ((am_ge0 ka).mp z)), if_neg h0, ← am_0, ← Int32.ofInt_sub]
      congr 1; omega
  rw [e9]
  exact kw
theorem am_mmax {a b : Int} (hd : decode M.2.1 pc = .ok (.invokestatic idx, 3)) (hp : pc + 3 = pc') (lk : am_T (.methodLink M.1.cls idx yJ9_max_7cf53)) (hlev : 1 ≤ M.2.2.2.2.1) (hrest : st.length ≤ 4) (kk : am_WP M bc bs pc' ls (am_I (if a < b then b else a) :: st) ρ h Q) : am_WP M bc bs pc ls (am_I b :: am_I a :: st) ρ h Q := by
  subst hp
  intro p l e R s m args below meth c Z D cI cS A n0 ad0 Cx ad H locs cells slots lc rl os ol hl hcs hss
  have hR : R.frames = M.2.2.2.2.1 := Cx.1.2.2.2.2.2.1
  have hL : R.locals = 36 * M.2.2.2.2.1 := Cx.1.2.2.2.2.2.2.1
  have kb : am_okI b := am_okh os
  have ka : am_okI a := am_okh (am_okt os)
  have hrm := am_room (ad := ad) hrest
  refine va_mmax (x := Int32.ofInt a) (y := Int32.ofInt b) Cx.1.1.1 Cx.1.1.2.1 (Cx.1.1.2.2.1.trans hl.1.symm) Cx.1.1.2.2.2 (Cx.1.2.1 _ lk) (Cx.1.2.1 _ sm_J9_max_7cf53) (Cx.1.2.1 _ in_J9) (Cx.1.2.1 _ co_J9_max_7cf53) (by omega) (by omega) (by omega) (by omega) hd ?_
  have kw := kk p l e R s m args below meth c Z D cI cS A n0 ad0 Cx ad H locs cells slots lc rl (am_okI1 (by split <;> assumption) (am_okt (am_okt os))) ol hl hcs hss
  have e9 : (if Int32.ofInt a < Int32.ofInt b then Int32.ofInt b else Int32.ofInt a) = Int32.ofInt (if a < b then b else a) := by
    by_cases h0 : a < b
    · rw [if_pos ((am_lt ka kb).mpr h0), if_pos h0]
    · rw [if_neg (fun z => h0 ((am_lt ka kb).mp z)), if_neg h0]
  rw [e9]
  exact kw
theorem am_mmin {a b : Int} (hd : decode M.2.1 pc = .ok (.invokestatic idx, 3)) (hp : pc + 3 = pc') (lk : am_T (.methodLink M.1.cls idx yJ9_min_7cf53)) (hlev : 1 ≤ M.2.2.2.2.1) (hrest : st.length ≤ 4) (hab : a ≤ b) (kk : am_WP M bc bs pc' ls (am_I a :: st) ρ h Q) : am_WP M bc bs pc ls (am_I b :: am_I a :: st) ρ h Q := by
  subst hp
  intro p l e R s m args below meth c Z D cI cS A n0 ad0 Cx ad H locs cells slots lc rl os ol hl hcs hss
  have hR : R.frames = M.2.2.2.2.1 := Cx.1.2.2.2.2.2.1
  have hL : R.locals = 36 * M.2.2.2.2.1 := Cx.1.2.2.2.2.2.2.1
  have kb : am_okI b := am_okh os
  have ka : am_okI a := am_okh (am_okt os)
  have hrm := am_room (ad := ad) hrest
  refine va_mmin (x := Int32.ofInt a) (y := Int32.ofInt b) Cx.1.1.1 Cx.1.1.2.1 (Cx.1.1.2.2.1.trans hl.1.symm) Cx.1.1.2.2.2 (Cx.1.2.1 _ lk) (Cx.1.2.1 _ sm_J9_min_7cf53) (Cx.1.2.1 _ in_J9) (Cx.1.2.1 _ co_J9_min_7cf53) (by omega) (by omega) (by omega) (by omega) hd ?_
  have kw := kk p l e R s m args below meth c Z D cI cS A n0 ad0 Cx ad H locs cells slots lc rl (am_okI1 ka (am_okt (am_okt os))) ol hl hcs hss
  have e9 : ¬ Int32.ofInt b < Int32.ofInt a := by rw [am_lt kb ka]; omega
  simp only [e9, if_false]
  exact kw
end AMR
end
