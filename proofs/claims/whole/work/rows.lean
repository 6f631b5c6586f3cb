section
-- ===== PART A: goes FIRST, ahead of the names: the tables' words, and 'selects' of the private methods out of them =====
/-- a private method of a class that the tables say can be made, by its rows of tables_1 -/
def lw_okq (q : MethodName × Nat) : Prop := (q.1.cls ≠ "java/lang/invoke/MethodHandle" ∧ q.1.cls ≠ "java/lang/invoke/VarHandle") ∧ Cond.instantiable q.1.cls q.2 ∈ tables_1 ∧ Cond.privateMethod q.1 ∈ tables_1 ∧ Cond.instanceMethod q.1 ∈ tables_1
theorem lw_p0 : lw_okq (⟨"DifferRings$Sheet", "spans", "(II)Z"⟩, 3) := ⟨⟨by decide +kernel, by decide +kernel⟩, List.mem_of_getElem? (i := 24) (by decide +kernel), List.mem_of_getElem? (i := 249) (by decide +kernel), List.mem_of_getElem? (i := 250) (by decide +kernel)⟩
theorem lw_p1 : lw_okq (⟨"DifferRings", "answerOfFault", "()I"⟩, 10) := ⟨⟨by decide +kernel, by decide +kernel⟩, List.mem_of_getElem? (i := 15) (by decide +kernel), List.mem_of_getElem? (i := 253) (by decide +kernel), List.mem_of_getElem? (i := 254) (by decide +kernel)⟩
theorem lw_p2 : lw_okq (⟨"DifferRings$Ring", "howFar", "(II)I"⟩, 5) := ⟨⟨by decide +kernel, by decide +kernel⟩, List.mem_of_getElem? (i := 42) (by decide +kernel), List.mem_of_getElem? (i := 296) (by decide +kernel), List.mem_of_getElem? (i := 297) (by decide +kernel)⟩
theorem lw_p3 : lw_okq (⟨"DifferRings$AllRows", "makeRoom", "()V"⟩, 14) := ⟨⟨by decide +kernel, by decide +kernel⟩, List.mem_of_getElem? (i := 76) (by decide +kernel), List.mem_of_getElem? (i := 345) (by decide +kernel), List.mem_of_getElem? (i := 346) (by decide +kernel)⟩
theorem lw_p4 : lw_okq (⟨"DifferRings$AllRows", "findNext", "()V"⟩, 14) := ⟨⟨by decide +kernel, by decide +kernel⟩, List.mem_of_getElem? (i := 76) (by decide +kernel), List.mem_of_getElem? (i := 349) (by decide +kernel), List.mem_of_getElem? (i := 350) (by decide +kernel)⟩
theorem lw_p5 : lw_okq (⟨"DifferRings$AllRows", "orderThoseThatDoNotComeBack", "()V"⟩, 14) := ⟨⟨by decide +kernel, by decide +kernel⟩, List.mem_of_getElem? (i := 76) (by decide +kernel), List.mem_of_getElem? (i := 369) (by decide +kernel), List.mem_of_getElem? (i := 370) (by decide +kernel)⟩
theorem lw_p6 : lw_okq (⟨"DifferRings$AllRows", "findRounds", "()V"⟩, 14) := ⟨⟨by decide +kernel, by decide +kernel⟩, List.mem_of_getElem? (i := 76) (by decide +kernel), List.mem_of_getElem? (i := 373) (by decide +kernel), List.mem_of_getElem? (i := 374) (by decide +kernel)⟩
theorem lw_p7 : lw_okq (⟨"DifferRings$AllRows", "markRound", "(I)V"⟩, 14) := ⟨⟨by decide +kernel, by decide +kernel⟩, List.mem_of_getElem? (i := 76) (by decide +kernel), List.mem_of_getElem? (i := 377) (by decide +kernel), List.mem_of_getElem? (i := 378) (by decide +kernel)⟩
theorem lw_p8 : lw_okq (⟨"DifferRings$AllRows", "findTails", "()V"⟩, 14) := ⟨⟨by decide +kernel, by decide +kernel⟩, List.mem_of_getElem? (i := 76) (by decide +kernel), List.mem_of_getElem? (i := 381) (by decide +kernel), List.mem_of_getElem? (i := 382) (by decide +kernel)⟩
theorem lw_p9 : lw_okq (⟨"DifferRings$AllRows", "sumUp", "()V"⟩, 14) := ⟨⟨by decide +kernel, by decide +kernel⟩, List.mem_of_getElem? (i := 76) (by decide +kernel), List.mem_of_getElem? (i := 385) (by decide +kernel), List.mem_of_getElem? (i := 386) (by decide +kernel)⟩
theorem lw_p10 : lw_okq (⟨"DifferRings$AllRows", "isRow", "(I)Z"⟩, 14) := ⟨⟨by decide +kernel, by decide +kernel⟩, List.mem_of_getElem? (i := 76) (by decide +kernel), List.mem_of_getElem? (i := 393) (by decide +kernel), List.mem_of_getElem? (i := 394) (by decide +kernel)⟩
theorem lw_p11 : lw_okq (⟨"DifferRings$Day", "canDo", "(LDifferRings$Ring;II)Z"⟩, 3) := ⟨⟨by decide +kernel, by decide +kernel⟩, List.mem_of_getElem? (i := 177) (by decide +kernel), List.mem_of_getElem? (i := 444) (by decide +kernel), List.mem_of_getElem? (i := 445) (by decide +kernel)⟩
theorem lw_p12 : lw_okq (⟨"DifferRings", "ofDay", "(I)I"⟩, 10) := ⟨⟨by decide +kernel, by decide +kernel⟩, List.mem_of_getElem? (i := 15) (by decide +kernel), List.mem_of_getElem? (i := 456) (by decide +kernel), List.mem_of_getElem? (i := 457) (by decide +kernel)⟩
theorem lw_p13 : lw_okq (⟨"DifferRings$AllRows", "unlikePlaces", "(II)I"⟩, 14) := ⟨⟨by decide +kernel, by decide +kernel⟩, List.mem_of_getElem? (i := 76) (by decide +kernel), List.mem_of_getElem? (i := 513) (by decide +kernel), List.mem_of_getElem? (i := 514) (by decide +kernel)⟩
theorem lw_p14 : lw_okq (⟨"DifferRings$Readings", "lastTime", "()I"⟩, 4) := ⟨⟨by decide +kernel, by decide +kernel⟩, List.mem_of_getElem? (i := 157) (by decide +kernel), List.mem_of_getElem? (i := 547) (by decide +kernel), List.mem_of_getElem? (i := 548) (by decide +kernel)⟩
theorem lw_p15 : lw_okq (⟨"DifferRings$Readings", "areSoAt", "(ILDifferRings$Ring;)Z"⟩, 4) := ⟨⟨by decide +kernel, by decide +kernel⟩, List.mem_of_getElem? (i := 157) (by decide +kernel), List.mem_of_getElem? (i := 554) (by decide +kernel), List.mem_of_getElem? (i := 555) (by decide +kernel)⟩
def lw_privs_1 : List (MethodName × Nat) := [(⟨"DifferRings$Sheet", "spans", "(II)Z"⟩, 3), (⟨"DifferRings", "answerOfFault", "()I"⟩, 10), (⟨"DifferRings$Ring", "howFar", "(II)I"⟩, 5), (⟨"DifferRings$AllRows", "makeRoom", "()V"⟩, 14), (⟨"DifferRings$AllRows", "findNext", "()V"⟩, 14), (⟨"DifferRings$AllRows", "orderThoseThatDoNotComeBack", "()V"⟩, 14), (⟨"DifferRings$AllRows", "findRounds", "()V"⟩, 14), (⟨"DifferRings$AllRows", "markRound", "(I)V"⟩, 14), (⟨"DifferRings$AllRows", "findTails", "()V"⟩, 14), (⟨"DifferRings$AllRows", "sumUp", "()V"⟩, 14), (⟨"DifferRings$AllRows", "isRow", "(I)Z"⟩, 14), (⟨"DifferRings$Day", "canDo", "(LDifferRings$Ring;II)Z"⟩, 3), (⟨"DifferRings", "ofDay", "(I)I"⟩, 10), (⟨"DifferRings$AllRows", "unlikePlaces", "(II)I"⟩, 14), (⟨"DifferRings$Readings", "lastTime", "()I"⟩, 4), (⟨"DifferRings$Readings", "areSoAt", "(ILDifferRings$Ring;)Z"⟩, 4)]
theorem lw_r1 : ∀ q ∈ lw_privs_1, lw_okq q := List.forall_mem_cons.mpr ⟨lw_p0, List.forall_mem_cons.mpr ⟨lw_p1, List.forall_mem_cons.mpr ⟨lw_p2, List.forall_mem_cons.mpr ⟨lw_p3, List.forall_mem_cons.mpr ⟨lw_p4, List.forall_mem_cons.mpr ⟨lw_p5, List.forall_mem_cons.mpr ⟨lw_p6, List.forall_mem_cons.mpr ⟨lw_p7, List.forall_mem_cons.mpr ⟨lw_p8, List.forall_mem_cons.mpr ⟨lw_p9, List.forall_mem_cons.mpr ⟨lw_p10, List.forall_mem_cons.mpr ⟨lw_p11, List.forall_mem_cons.mpr ⟨lw_p12, List.forall_mem_cons.mpr ⟨lw_p13, List.forall_mem_cons.mpr ⟨lw_p14, List.forall_mem_cons.mpr ⟨lw_p15, fun _ h => absurd h List.not_mem_nil⟩⟩⟩⟩⟩⟩⟩⟩⟩⟩⟩⟩⟩⟩⟩⟩
theorem lw_p16 : lw_okq (⟨"DifferRings$Spread", "begin", "(LDifferRings$AllRows;)V"⟩, 5) := ⟨⟨by decide +kernel, by decide +kernel⟩, List.mem_of_getElem? (i := 135) (by decide +kernel), List.mem_of_getElem? (i := 572) (by decide +kernel), List.mem_of_getElem? (i := 573) (by decide +kernel)⟩
theorem lw_p17 : lw_okq (⟨"DifferRings$Spread", "stepAll", "(LDifferRings$AllRows;)V"⟩, 5) := ⟨⟨by decide +kernel, by decide +kernel⟩, List.mem_of_getElem? (i := 135) (by decide +kernel), List.mem_of_getElem? (i := 576) (by decide +kernel), List.mem_of_getElem? (i := 577) (by decide +kernel)⟩
theorem lw_p18 : lw_okq (⟨"DifferRings$Sheet", "cut", "(I)I"⟩, 3) := ⟨⟨by decide +kernel, by decide +kernel⟩, List.mem_of_getElem? (i := 24) (by decide +kernel), List.mem_of_getElem? (i := 616) (by decide +kernel), List.mem_of_getElem? (i := 617) (by decide +kernel)⟩
theorem lw_p19 : lw_okq (⟨"DifferRings", "tellPlain", "(I)I"⟩, 10) := ⟨⟨by decide +kernel, by decide +kernel⟩, List.mem_of_getElem? (i := 15) (by decide +kernel), List.mem_of_getElem? (i := 638) (by decide +kernel), List.mem_of_getElem? (i := 639) (by decide +kernel)⟩
theorem lw_p20 : lw_okq (⟨"DifferRings", "leave", "(I)V"⟩, 10) := ⟨⟨by decide +kernel, by decide +kernel⟩, List.mem_of_getElem? (i := 15) (by decide +kernel), List.mem_of_getElem? (i := 642) (by decide +kernel), List.mem_of_getElem? (i := 643) (by decide +kernel)⟩
theorem lw_p21 : lw_okq (⟨"DifferRings", "tellFar", "(I)I"⟩, 10) := ⟨⟨by decide +kernel, by decide +kernel⟩, List.mem_of_getElem? (i := 15) (by decide +kernel), List.mem_of_getElem? (i := 646) (by decide +kernel), List.mem_of_getElem? (i := 647) (by decide +kernel)⟩
theorem lw_p22 : lw_okq (⟨"DifferRings", "tellMixed", "(I)I"⟩, 10) := ⟨⟨by decide +kernel, by decide +kernel⟩, List.mem_of_getElem? (i := 15) (by decide +kernel), List.mem_of_getElem? (i := 650) (by decide +kernel), List.mem_of_getElem? (i := 651) (by decide +kernel)⟩
theorem lw_p23 : lw_okq (⟨"DifferRingsModel", "refused", "(I)I"⟩, 32) := ⟨⟨by decide +kernel, by decide +kernel⟩, List.mem_of_getElem? (i := 674) (by decide +kernel), List.mem_of_getElem? (i := 788) (by decide +kernel), List.mem_of_getElem? (i := 789) (by decide +kernel)⟩
theorem lw_p24 : lw_okq (⟨"DifferRingsModel", "cellsBarred", "(IIIJ)I"⟩, 32) := ⟨⟨by decide +kernel, by decide +kernel⟩, List.mem_of_getElem? (i := 674) (by decide +kernel), List.mem_of_getElem? (i := 793) (by decide +kernel), List.mem_of_getElem? (i := 794) (by decide +kernel)⟩
theorem lw_p25 : lw_okq (⟨"DifferRingsModel", "failed", "(I)I"⟩, 32) := ⟨⟨by decide +kernel, by decide +kernel⟩, List.mem_of_getElem? (i := 674) (by decide +kernel), List.mem_of_getElem? (i := 797) (by decide +kernel), List.mem_of_getElem? (i := 798) (by decide +kernel)⟩
theorem lw_p26 : lw_okq (⟨"DifferRingsModel", "readsRing", "(II)Z"⟩, 32) := ⟨⟨by decide +kernel, by decide +kernel⟩, List.mem_of_getElem? (i := 674) (by decide +kernel), List.mem_of_getElem? (i := 804) (by decide +kernel), List.mem_of_getElem? (i := 805) (by decide +kernel)⟩
theorem lw_p27 : lw_okq (⟨"DifferRingsModel", "codeAt", "(II)I"⟩, 32) := ⟨⟨by decide +kernel, by decide +kernel⟩, List.mem_of_getElem? (i := 674) (by decide +kernel), List.mem_of_getElem? (i := 808) (by decide +kernel), List.mem_of_getElem? (i := 809) (by decide +kernel)⟩
theorem lw_p28 : lw_okq (⟨"DifferRingsModel", "readsPlace", "(II)Z"⟩, 32) := ⟨⟨by decide +kernel, by decide +kernel⟩, List.mem_of_getElem? (i := 674) (by decide +kernel), List.mem_of_getElem? (i := 813) (by decide +kernel), List.mem_of_getElem? (i := 814) (by decide +kernel)⟩
theorem lw_p29 : lw_okq (⟨"DifferRingsModel", "noPlace", "(I)Z"⟩, 32) := ⟨⟨by decide +kernel, by decide +kernel⟩, List.mem_of_getElem? (i := 674) (by decide +kernel), List.mem_of_getElem? (i := 821) (by decide +kernel), List.mem_of_getElem? (i := 822) (by decide +kernel)⟩
theorem lw_p30 : lw_okq (⟨"DifferRingsModel", "takesNow", "()V"⟩, 32) := ⟨⟨by decide +kernel, by decide +kernel⟩, List.mem_of_getElem? (i := 674) (by decide +kernel), List.mem_of_getElem? (i := 825) (by decide +kernel), List.mem_of_getElem? (i := 826) (by decide +kernel)⟩
theorem lw_p31 : lw_okq (⟨"DifferRingsModel", "becomes", "(I)I"⟩, 32) := ⟨⟨by decide +kernel, by decide +kernel⟩, List.mem_of_getElem? (i := 674) (by decide +kernel), List.mem_of_getElem? (i := 829) (by decide +kernel), List.mem_of_getElem? (i := 830) (by decide +kernel)⟩
def lw_privs_2 : List (MethodName × Nat) := [(⟨"DifferRings$Spread", "begin", "(LDifferRings$AllRows;)V"⟩, 5), (⟨"DifferRings$Spread", "stepAll", "(LDifferRings$AllRows;)V"⟩, 5), (⟨"DifferRings$Sheet", "cut", "(I)I"⟩, 3), (⟨"DifferRings", "tellPlain", "(I)I"⟩, 10), (⟨"DifferRings", "leave", "(I)V"⟩, 10), (⟨"DifferRings", "tellFar", "(I)I"⟩, 10), (⟨"DifferRings", "tellMixed", "(I)I"⟩, 10), (⟨"DifferRingsModel", "refused", "(I)I"⟩, 32), (⟨"DifferRingsModel", "cellsBarred", "(IIIJ)I"⟩, 32), (⟨"DifferRingsModel", "failed", "(I)I"⟩, 32), (⟨"DifferRingsModel", "readsRing", "(II)Z"⟩, 32), (⟨"DifferRingsModel", "codeAt", "(II)I"⟩, 32), (⟨"DifferRingsModel", "readsPlace", "(II)Z"⟩, 32), (⟨"DifferRingsModel", "noPlace", "(I)Z"⟩, 32), (⟨"DifferRingsModel", "takesNow", "()V"⟩, 32), (⟨"DifferRingsModel", "becomes", "(I)I"⟩, 32)]
theorem lw_r2 : ∀ q ∈ lw_privs_2, lw_okq q := List.forall_mem_cons.mpr ⟨lw_p16, List.forall_mem_cons.mpr ⟨lw_p17, List.forall_mem_cons.mpr ⟨lw_p18, List.forall_mem_cons.mpr ⟨lw_p19, List.forall_mem_cons.mpr ⟨lw_p20, List.forall_mem_cons.mpr ⟨lw_p21, List.forall_mem_cons.mpr ⟨lw_p22, List.forall_mem_cons.mpr ⟨lw_p23, List.forall_mem_cons.mpr ⟨lw_p24, List.forall_mem_cons.mpr ⟨lw_p25, List.forall_mem_cons.mpr ⟨lw_p26, List.forall_mem_cons.mpr ⟨lw_p27, List.forall_mem_cons.mpr ⟨lw_p28, List.forall_mem_cons.mpr ⟨lw_p29, List.forall_mem_cons.mpr ⟨lw_p30, List.forall_mem_cons.mpr ⟨lw_p31, fun _ h => absurd h List.not_mem_nil⟩⟩⟩⟩⟩⟩⟩⟩⟩⟩⟩⟩⟩⟩⟩⟩
theorem lw_p32 : lw_okq (⟨"DifferRingsModel", "isNumber", "(I)Z"⟩, 32) := ⟨⟨by decide +kernel, by decide +kernel⟩, List.mem_of_getElem? (i := 674) (by decide +kernel), List.mem_of_getElem? (i := 840) (by decide +kernel), List.mem_of_getElem? (i := 841) (by decide +kernel)⟩
theorem lw_p33 : lw_okq (⟨"DifferRingsModel", "doesSteps", "(I)V"⟩, 32) := ⟨⟨by decide +kernel, by decide +kernel⟩, List.mem_of_getElem? (i := 674) (by decide +kernel), List.mem_of_getElem? (i := 849) (by decide +kernel), List.mem_of_getElem? (i := 850) (by decide +kernel)⟩
theorem lw_p34 : lw_okq (⟨"DifferRingsModel", "stepsOnce", "()V"⟩, 32) := ⟨⟨by decide +kernel, by decide +kernel⟩, List.mem_of_getElem? (i := 674) (by decide +kernel), List.mem_of_getElem? (i := 853) (by decide +kernel), List.mem_of_getElem? (i := 854) (by decide +kernel)⟩
theorem lw_p35 : lw_okq (⟨"DifferRingsModel", "zeros", "()I"⟩, 32) := ⟨⟨by decide +kernel, by decide +kernel⟩, List.mem_of_getElem? (i := 674) (by decide +kernel), List.mem_of_getElem? (i := 857) (by decide +kernel), List.mem_of_getElem? (i := 858) (by decide +kernel)⟩
theorem lw_p36 : lw_okq (⟨"DifferRingsModel", "rowNow", "()I"⟩, 32) := ⟨⟨by decide +kernel, by decide +kernel⟩, List.mem_of_getElem? (i := 674) (by decide +kernel), List.mem_of_getElem? (i := 866) (by decide +kernel), List.mem_of_getElem? (i := 867) (by decide +kernel)⟩
theorem lw_p37 : lw_okq (⟨"DifferRingsModel", "rowAt", "()I"⟩, 32) := ⟨⟨by decide +kernel, by decide +kernel⟩, List.mem_of_getElem? (i := 674) (by decide +kernel), List.mem_of_getElem? (i := 870) (by decide +kernel), List.mem_of_getElem? (i := 871) (by decide +kernel)⟩
theorem lw_p38 : lw_okq (⟨"DifferRingsModel", "tables", "()V"⟩, 32) := ⟨⟨by decide +kernel, by decide +kernel⟩, List.mem_of_getElem? (i := 674) (by decide +kernel), List.mem_of_getElem? (i := 874) (by decide +kernel), List.mem_of_getElem? (i := 875) (by decide +kernel)⟩
theorem lw_p39 : lw_okq (⟨"DifferRingsModel", "allRows", "()I"⟩, 32) := ⟨⟨by decide +kernel, by decide +kernel⟩, List.mem_of_getElem? (i := 674) (by decide +kernel), List.mem_of_getElem? (i := 878) (by decide +kernel), List.mem_of_getElem? (i := 879) (by decide +kernel)⟩
theorem lw_p40 : lw_okq (⟨"DifferRingsModel", "takesRow", "(I)V"⟩, 32) := ⟨⟨by decide +kernel, by decide +kernel⟩, List.mem_of_getElem? (i := 674) (by decide +kernel), List.mem_of_getElem? (i := 882) (by decide +kernel), List.mem_of_getElem? (i := 883) (by decide +kernel)⟩
theorem lw_p41 : lw_okq (⟨"DifferRingsModel", "takesAway", "(I)V"⟩, 32) := ⟨⟨by decide +kernel, by decide +kernel⟩, List.mem_of_getElem? (i := 674) (by decide +kernel), List.mem_of_getElem? (i := 886) (by decide +kernel), List.mem_of_getElem? (i := 887) (by decide +kernel)⟩
theorem lw_p42 : lw_okq (⟨"DifferRingsModel", "roundOf", "(I)I"⟩, 32) := ⟨⟨by decide +kernel, by decide +kernel⟩, List.mem_of_getElem? (i := 674) (by decide +kernel), List.mem_of_getElem? (i := 890) (by decide +kernel), List.mem_of_getElem? (i := 891) (by decide +kernel)⟩
theorem lw_p43 : lw_okq (⟨"DifferRingsModel", "behind", "(IJ)I"⟩, 32) := ⟨⟨by decide +kernel, by decide +kernel⟩, List.mem_of_getElem? (i := 674) (by decide +kernel), List.mem_of_getElem? (i := 894) (by decide +kernel), List.mem_of_getElem? (i := 895) (by decide +kernel)⟩
theorem lw_p44 : lw_okq (⟨"DifferRingsModel", "roundFrom", "(I)I"⟩, 32) := ⟨⟨by decide +kernel, by decide +kernel⟩, List.mem_of_getElem? (i := 674) (by decide +kernel), List.mem_of_getElem? (i := 898) (by decide +kernel), List.mem_of_getElem? (i := 899) (by decide +kernel)⟩
theorem lw_p45 : lw_okq (⟨"DifferRingsModel", "dayOf", "(III)I"⟩, 32) := ⟨⟨by decide +kernel, by decide +kernel⟩, List.mem_of_getElem? (i := 674) (by decide +kernel), List.mem_of_getElem? (i := 911) (by decide +kernel), List.mem_of_getElem? (i := 912) (by decide +kernel)⟩
theorem lw_p46 : lw_okq (⟨"DifferRingsModel", "doesPair", "(II)Z"⟩, 32) := ⟨⟨by decide +kernel, by decide +kernel⟩, List.mem_of_getElem? (i := 674) (by decide +kernel), List.mem_of_getElem? (i := 915) (by decide +kernel), List.mem_of_getElem? (i := 916) (by decide +kernel)⟩
theorem lw_p47 : lw_okq (⟨"DifferRingsModel", "sumNow", "()I"⟩, 32) := ⟨⟨by decide +kernel, by decide +kernel⟩, List.mem_of_getElem? (i := 674) (by decide +kernel), List.mem_of_getElem? (i := 920) (by decide +kernel), List.mem_of_getElem? (i := 921) (by decide +kernel)⟩
def lw_privs_3 : List (MethodName × Nat) := [(⟨"DifferRingsModel", "isNumber", "(I)Z"⟩, 32), (⟨"DifferRingsModel", "doesSteps", "(I)V"⟩, 32), (⟨"DifferRingsModel", "stepsOnce", "()V"⟩, 32), (⟨"DifferRingsModel", "zeros", "()I"⟩, 32), (⟨"DifferRingsModel", "rowNow", "()I"⟩, 32), (⟨"DifferRingsModel", "rowAt", "()I"⟩, 32), (⟨"DifferRingsModel", "tables", "()V"⟩, 32), (⟨"DifferRingsModel", "allRows", "()I"⟩, 32), (⟨"DifferRingsModel", "takesRow", "(I)V"⟩, 32), (⟨"DifferRingsModel", "takesAway", "(I)V"⟩, 32), (⟨"DifferRingsModel", "roundOf", "(I)I"⟩, 32), (⟨"DifferRingsModel", "behind", "(IJ)I"⟩, 32), (⟨"DifferRingsModel", "roundFrom", "(I)I"⟩, 32), (⟨"DifferRingsModel", "dayOf", "(III)I"⟩, 32), (⟨"DifferRingsModel", "doesPair", "(II)Z"⟩, 32), (⟨"DifferRingsModel", "sumNow", "()I"⟩, 32)]
theorem lw_r3 : ∀ q ∈ lw_privs_3, lw_okq q := List.forall_mem_cons.mpr ⟨lw_p32, List.forall_mem_cons.mpr ⟨lw_p33, List.forall_mem_cons.mpr ⟨lw_p34, List.forall_mem_cons.mpr ⟨lw_p35, List.forall_mem_cons.mpr ⟨lw_p36, List.forall_mem_cons.mpr ⟨lw_p37, List.forall_mem_cons.mpr ⟨lw_p38, List.forall_mem_cons.mpr ⟨lw_p39, List.forall_mem_cons.mpr ⟨lw_p40, List.forall_mem_cons.mpr ⟨lw_p41, List.forall_mem_cons.mpr ⟨lw_p42, List.forall_mem_cons.mpr ⟨lw_p43, List.forall_mem_cons.mpr ⟨lw_p44, List.forall_mem_cons.mpr ⟨lw_p45, List.forall_mem_cons.mpr ⟨lw_p46, List.forall_mem_cons.mpr ⟨lw_p47, fun _ h => absurd h List.not_mem_nil⟩⟩⟩⟩⟩⟩⟩⟩⟩⟩⟩⟩⟩⟩⟩⟩
theorem lw_p48 : lw_okq (⟨"DifferRingsModel", "tailNow", "()I"⟩, 32) := ⟨⟨by decide +kernel, by decide +kernel⟩, List.mem_of_getElem? (i := 674) (by decide +kernel), List.mem_of_getElem? (i := 924) (by decide +kernel), List.mem_of_getElem? (i := 925) (by decide +kernel)⟩
theorem lw_p49 : lw_okq (⟨"DifferRingsModel", "rounds", "()I"⟩, 32) := ⟨⟨by decide +kernel, by decide +kernel⟩, List.mem_of_getElem? (i := 674) (by decide +kernel), List.mem_of_getElem? (i := 941) (by decide +kernel), List.mem_of_getElem? (i := 942) (by decide +kernel)⟩
theorem lw_p50 : lw_okq (⟨"DifferRingsModel", "unlikeNow", "(I)I"⟩, 32) := ⟨⟨by decide +kernel, by decide +kernel⟩, List.mem_of_getElem? (i := 674) (by decide +kernel), List.mem_of_getElem? (i := 957) (by decide +kernel), List.mem_of_getElem? (i := 958) (by decide +kernel)⟩
theorem lw_p51 : lw_okq (⟨"DifferRingsModel", "areSo", "()Z"⟩, 32) := ⟨⟨by decide +kernel, by decide +kernel⟩, List.mem_of_getElem? (i := 674) (by decide +kernel), List.mem_of_getElem? (i := 976) (by decide +kernel), List.mem_of_getElem? (i := 977) (by decide +kernel)⟩
theorem lw_p52 : lw_okq (⟨"DifferRingsModel", "isSo", "(I)Z"⟩, 32) := ⟨⟨by decide +kernel, by decide +kernel⟩, List.mem_of_getElem? (i := 674) (by decide +kernel), List.mem_of_getElem? (i := 980) (by decide +kernel), List.mem_of_getElem? (i := 981) (by decide +kernel)⟩
theorem lw_p53 : lw_okq (⟨"DifferRingsModel", "noCell", "(II)I"⟩, 32) := ⟨⟨by decide +kernel, by decide +kernel⟩, List.mem_of_getElem? (i := 674) (by decide +kernel), List.mem_of_getElem? (i := 1011) (by decide +kernel), List.mem_of_getElem? (i := 1012) (by decide +kernel)⟩
theorem lw_p54 : lw_okq (⟨"DifferRingsModel", "failedLong", "(I)J"⟩, 32) := ⟨⟨by decide +kernel, by decide +kernel⟩, List.mem_of_getElem? (i := 674) (by decide +kernel), List.mem_of_getElem? (i := 1019) (by decide +kernel), List.mem_of_getElem? (i := 1020) (by decide +kernel)⟩
theorem lw_p55 : lw_okq (⟨"DifferRingsModel", "traced", "(I)V"⟩, 32) := ⟨⟨by decide +kernel, by decide +kernel⟩, List.mem_of_getElem? (i := 674) (by decide +kernel), List.mem_of_getElem? (i := 1031) (by decide +kernel), List.mem_of_getElem? (i := 1032) (by decide +kernel)⟩
def lw_privs_4 : List (MethodName × Nat) := [(⟨"DifferRingsModel", "tailNow", "()I"⟩, 32), (⟨"DifferRingsModel", "rounds", "()I"⟩, 32), (⟨"DifferRingsModel", "unlikeNow", "(I)I"⟩, 32), (⟨"DifferRingsModel", "areSo", "()Z"⟩, 32), (⟨"DifferRingsModel", "isSo", "(I)Z"⟩, 32), (⟨"DifferRingsModel", "noCell", "(II)I"⟩, 32), (⟨"DifferRingsModel", "failedLong", "(I)J"⟩, 32), (⟨"DifferRingsModel", "traced", "(I)V"⟩, 32)]
theorem lw_r4 : ∀ q ∈ lw_privs_4, lw_okq q := List.forall_mem_cons.mpr ⟨lw_p48, List.forall_mem_cons.mpr ⟨lw_p49, List.forall_mem_cons.mpr ⟨lw_p50, List.forall_mem_cons.mpr ⟨lw_p51, List.forall_mem_cons.mpr ⟨lw_p52, List.forall_mem_cons.mpr ⟨lw_p53, List.forall_mem_cons.mpr ⟨lw_p54, List.forall_mem_cons.mpr ⟨lw_p55, fun _ h => absurd h List.not_mem_nil⟩⟩⟩⟩⟩⟩⟩⟩
def lw_privs : List (MethodName × Nat) := lw_privs_1 ++ (lw_privs_2 ++ (lw_privs_3 ++ (lw_privs_4)))
def lw_tbl : List Cond := k2_sels lw_privs ++ tables_1
theorem lw_privs_ok : ∀ q ∈ lw_privs, lw_okq q := by
  show ∀ q ∈ lw_privs_1 ++ (lw_privs_2 ++ (lw_privs_3 ++ (lw_privs_4))), lw_okq q
  exact List.forall_mem_append.mpr ⟨lw_r1, List.forall_mem_append.mpr ⟨lw_r2, List.forall_mem_append.mpr ⟨lw_r3, lw_r4⟩⟩⟩
end
section
def RX0 : String := "DifferRings$AllRows"
def TX0 : u_T := fun k => match k with
  | 0 => ("DifferRings$AllRows", "probe", "LDifferRings$Ring;", true)
  | 1 => ("DifferRings$AllRows", "next", "[I", false)
  | 2 => ("DifferRings$AllRows", "comers", "[I", false)
  | 3 => ("DifferRings$AllRows", "order", "[I", false)
  | 4 => ("DifferRings$AllRows", "root", "[I", false)
  | 5 => ("DifferRings$AllRows", "tail", "[I", false)
  | 6 => ("DifferRings$AllRows", "ordered", "I", false)
  | 7 => ("DifferRings$AllRows", "count", "I", false)
  | 8 => ("DifferRings$AllRows", "staying", "I", false)
  | 9 => ("DifferRings$AllRows", "barren", "I", false)
  | 10 => ("DifferRings$AllRows", "goingOut", "I", false)
  | 11 => ("DifferRings$AllRows", "rounds", "I", false)
  | 12 => ("DifferRings$AllRows", "longestTail", "I", false)
  | _ => ("DifferRings$AllRows", "firstOfLongest", "I", false)
def tyX0 : Nat → FieldType := fun k => match k with
  | 0 => .object "DifferRings$Ring"
  | 1 => .array .int
  | 2 => .array .int
  | 3 => .array .int
  | 4 => .array .int
  | 5 => .array .int
  | 6 => .int
  | 7 => .int
  | 8 => .int
  | 9 => .int
  | 10 => .int
  | 11 => .int
  | 12 => .int
  | _ => .int
abbrev wsX00 : List Cond := u_ws RX0 TX0 14
theorem nmX0 : ∀ a, a < 14 → ∀ b, b < 14 → a ≠ b → (TX0 a).2.1 ≠ (TX0 b).2.1 := by decide +kernel
theorem tyX0_ok : ∀ k, k < 14 → parseFieldDescriptor (TX0 k).2.2.1 = some (tyX0 k) := by decide +kernel
abbrev cX0_init : ByteArray := prog_2_method_1_code
def yX0_init : MethodName := ⟨RX0, "<init>", "()V"⟩
abbrev cX0_forget : ByteArray := prog_2_method_2_code
def yX0_forget : MethodName := ⟨RX0, "forget", "()V"⟩
abbrev cX0_workOut : ByteArray := prog_2_method_3_code
def yX0_workOut : MethodName := ⟨RX0, "workOut", "(LDifferRings$Ring;)V"⟩
abbrev cX0_makeRoom : ByteArray := prog_2_method_4_code
def yX0_makeRoom : MethodName := ⟨RX0, "makeRoom", "()V"⟩
abbrev cX0_findNext : ByteArray := prog_2_method_5_code
def yX0_findNext : MethodName := ⟨RX0, "findNext", "()V"⟩
abbrev cX0_orderThoseThatDoNotComeBack : ByteArray := prog_2_method_6_code
def yX0_orderThoseThatDoNotComeBack : MethodName := ⟨RX0, "orderThoseThatDoNotComeBack", "()V"⟩
abbrev cX0_findRounds : ByteArray := prog_2_method_7_code
def yX0_findRounds : MethodName := ⟨RX0, "findRounds", "()V"⟩
abbrev cX0_markRound : ByteArray := prog_2_method_8_code
def yX0_markRound : MethodName := ⟨RX0, "markRound", "(I)V"⟩
abbrev cX0_findTails : ByteArray := prog_2_method_9_code
def yX0_findTails : MethodName := ⟨RX0, "findTails", "()V"⟩
abbrev cX0_sumUp : ByteArray := prog_2_method_10_code
def yX0_sumUp : MethodName := ⟨RX0, "sumUp", "()V"⟩
abbrev cX0_isRow : ByteArray := prog_2_method_11_code
def yX0_isRow : MethodName := ⟨RX0, "isRow", "(I)Z"⟩
abbrev cX0_nextOf : ByteArray := prog_2_method_12_code
def yX0_nextOf : MethodName := ⟨RX0, "nextOf", "(I)I"⟩
abbrev cX0_tailOf : ByteArray := prog_2_method_13_code
def yX0_tailOf : MethodName := ⟨RX0, "tailOf", "(I)I"⟩
abbrev cX0_roundOf : ByteArray := prog_2_method_14_code
def yX0_roundOf : MethodName := ⟨RX0, "roundOf", "(I)I"⟩
abbrev cX0_goesOut : ByteArray := prog_2_method_15_code
def yX0_goesOut : MethodName := ⟨RX0, "goesOut", "(I)Z"⟩
abbrev cX0_behind : ByteArray := prog_2_method_16_code
def yX0_behind : MethodName := ⟨RX0, "behind", "(IJ)I"⟩
abbrev cX0_comersOf : ByteArray := prog_2_method_17_code
def yX0_comersOf : MethodName := ⟨RX0, "comersOf", "(I)I"⟩
abbrev cX0_firstComerOf : ByteArray := prog_2_method_18_code
def yX0_firstComerOf : MethodName := ⟨RX0, "firstComerOf", "(I)I"⟩
abbrev cX0_meeting : ByteArray := prog_2_method_19_code
def yX0_meeting : MethodName := ⟨RX0, "meeting", "(II)I"⟩
abbrev cX0_leastSetToGoOut : ByteArray := prog_2_method_20_code
def yX0_leastSetToGoOut : MethodName := ⟨RX0, "leastSetToGoOut", "(I)I"⟩
abbrev cX0_unlikePlaces : ByteArray := prog_2_method_21_code
def yX0_unlikePlaces : MethodName := ⟨RX0, "unlikePlaces", "(II)I"⟩
abbrev cX0_numberIn : ByteArray := prog_2_method_22_code
def yX0_numberIn : MethodName := ⟨RX0, "numberIn", "(II)I"⟩
def RX1 : String := "DifferRings$Day"
def TX1 : u_T := fun k => match k with
  | 0 => ("DifferRings$Day", "firstWrong", "I", false)
  | 1 => ("DifferRings$Day", "stepsIn", "I", false)
  | _ => ("DifferRings$Day", "outs", "I", false)
def tyX1 : Nat → FieldType := fun k => match k with
  | 0 => .int
  | 1 => .int
  | _ => .int
abbrev wsX10 : List Cond := u_ws RX1 TX1 3
theorem nmX1 : ∀ a, a < 3 → ∀ b, b < 3 → a ≠ b → (TX1 a).2.1 ≠ (TX1 b).2.1 := by decide +kernel
theorem tyX1_ok : ∀ k, k < 3 → parseFieldDescriptor (TX1 k).2.2.1 = some (tyX1 k) := by decide +kernel
abbrev cX1_init : ByteArray := prog_3_method_1_code
def yX1_init : MethodName := ⟨RX1, "<init>", "()V"⟩
abbrev cX1_areActs : ByteArray := prog_3_method_2_code
def yX1_areActs : MethodName := ⟨RX1, "areActs", "(LDifferRings$Sheet;II)Z"⟩
abbrev cX1_isAct : ByteArray := prog_3_method_3_code
def yX1_isAct : MethodName := ⟨RX1, "isAct", "(II)Z"⟩
abbrev cX1_play : ByteArray := prog_3_method_4_code
def yX1_play : MethodName := ⟨RX1, "play", "(LDifferRings$Ring;LDifferRings$Sheet;II)V"⟩
abbrev cX1_canDo : ByteArray := prog_3_method_5_code
def yX1_canDo : MethodName := ⟨RX1, "canDo", "(LDifferRings$Ring;II)Z"⟩
def RX2 : String := "DifferRings$Readings"
def TX2 : u_T := fun k => match k with
  | 0 => ("DifferRings$Readings", "time", "[I", true)
  | 1 => ("DifferRings$Readings", "place", "[I", true)
  | 2 => ("DifferRings$Readings", "number", "[I", true)
  | _ => ("DifferRings$Readings", "count", "I", false)
def tyX2 : Nat → FieldType := fun k => match k with
  | 0 => .array .int
  | 1 => .array .int
  | 2 => .array .int
  | _ => .int
abbrev wsX20 : List Cond := u_ws RX2 TX2 4
theorem nmX2 : ∀ a, a < 4 → ∀ b, b < 4 → a ≠ b → (TX2 a).2.1 ≠ (TX2 b).2.1 := by decide +kernel
theorem tyX2_ok : ∀ k, k < 4 → parseFieldDescriptor (TX2 k).2.2.1 = some (tyX2 k) := by decide +kernel
abbrev cX2_init : ByteArray := prog_4_method_1_code
def yX2_init : MethodName := ⟨RX2, "<init>", "()V"⟩
abbrev cX2_keep : ByteArray := prog_4_method_2_code
def yX2_keep : MethodName := ⟨RX2, "keep", "(III)I"⟩
abbrev cX2_areSo : ByteArray := prog_4_method_3_code
def yX2_areSo : MethodName := ⟨RX2, "areSo", "(LDifferRings$Ring;)Z"⟩
abbrev cX2_lastTime : ByteArray := prog_4_method_4_code
def yX2_lastTime : MethodName := ⟨RX2, "lastTime", "()I"⟩
abbrev cX2_areSoAt : ByteArray := prog_4_method_5_code
def yX2_areSoAt : MethodName := ⟨RX2, "areSoAt", "(ILDifferRings$Ring;)Z"⟩
def RX3 : String := "DifferRings$Ring"
def TX3 : u_T := fun k => match k with
  | 0 => ("DifferRings$Ring", "base", "I", false)
  | 1 => ("DifferRings$Ring", "size", "I", false)
  | 2 => ("DifferRings$Ring", "kind", "[I", true)
  | 3 => ("DifferRings$Ring", "number", "[I", true)
  | _ => ("DifferRings$Ring", "coming", "[I", true)
def tyX3 : Nat → FieldType := fun k => match k with
  | 0 => .int
  | 1 => .int
  | 2 => .array .int
  | 3 => .array .int
  | _ => .array .int
abbrev wsX30 : List Cond := u_ws RX3 TX3 5
theorem nmX3 : ∀ a, a < 5 → ∀ b, b < 5 → a ≠ b → (TX3 a).2.1 ≠ (TX3 b).2.1 := by decide +kernel
theorem tyX3_ok : ∀ k, k < 5 → parseFieldDescriptor (TX3 k).2.2.1 = some (tyX3 k) := by decide +kernel
abbrev cX3_init : ByteArray := prog_5_method_1_code
def yX3_init : MethodName := ⟨RX3, "<init>", "()V"⟩
abbrev cX3_isNone : ByteArray := prog_5_method_2_code
def yX3_isNone : MethodName := ⟨RX3, "isNone", "()Z"⟩
abbrev cX3_has : ByteArray := prog_5_method_3_code
def yX3_has : MethodName := ⟨RX3, "has", "(I)Z"⟩
abbrev cX3_isNumber : ByteArray := prog_5_method_4_code
def yX3_isNumber : MethodName := ⟨RX3, "isNumber", "(I)Z"⟩
abbrev cX3_takeAll : ByteArray := prog_5_method_5_code
def yX3_takeAll : MethodName := ⟨RX3, "takeAll", "(LDifferRings$Ring;)V"⟩
abbrev cX3_takeKinds : ByteArray := prog_5_method_6_code
def yX3_takeKinds : MethodName := ⟨RX3, "takeKinds", "(LDifferRings$Ring;)V"⟩
abbrev cX3_takeRow : ByteArray := prog_5_method_7_code
def yX3_takeRow : MethodName := ⟨RX3, "takeRow", "(LDifferRings$Sheet;I)Z"⟩
abbrev cX3_takeFirstRow : ByteArray := prog_5_method_8_code
def yX3_takeFirstRow : MethodName := ⟨RX3, "takeFirstRow", "()V"⟩
abbrev cX3_takeNextRow : ByteArray := prog_5_method_9_code
def yX3_takeNextRow : MethodName := ⟨RX3, "takeNextRow", "()V"⟩
abbrev cX3_stepped : ByteArray := prog_5_method_10_code
def yX3_stepped : MethodName := ⟨RX3, "stepped", "(I)I"⟩
abbrev cX3_howFar : ByteArray := prog_5_method_11_code
def yX3_howFar : MethodName := ⟨RX3, "howFar", "(II)I"⟩
abbrev cX3_go : ByteArray := prog_5_method_12_code
def yX3_go : MethodName := ⟨RX3, "go", "(I)V"⟩
abbrev cX3_zeros : ByteArray := prog_5_method_13_code
def yX3_zeros : MethodName := ⟨RX3, "zeros", "()I"⟩
abbrev cX3_isOut : ByteArray := prog_5_method_14_code
def yX3_isOut : MethodName := ⟨RX3, "isOut", "()Z"⟩
abbrev cX3_total : ByteArray := prog_5_method_15_code
def yX3_total : MethodName := ⟨RX3, "total", "()I"⟩
abbrev cX3_code : ByteArray := prog_5_method_16_code
def yX3_code : MethodName := ⟨RX3, "code", "()I"⟩
abbrev cX3_steppedCode : ByteArray := prog_5_method_17_code
def yX3_steppedCode : MethodName := ⟨RX3, "steppedCode", "()I"⟩
def RX4 : String := "DifferRings$Sheet"
def TX4 : u_T := fun k => match k with
  | 0 => ("DifferRings$Sheet", "lane", "I", false)
  | 1 => ("DifferRings$Sheet", "size", "I", false)
  | _ => ("DifferRings$Sheet", "cells", "[I", true)
def tyX4 : Nat → FieldType := fun k => match k with
  | 0 => .int
  | 1 => .int
  | _ => .array .int
abbrev wsX40 : List Cond := u_ws RX4 TX4 3
theorem nmX4 : ∀ a, a < 3 → ∀ b, b < 3 → a ≠ b → (TX4 a).2.1 ≠ (TX4 b).2.1 := by decide +kernel
theorem tyX4_ok : ∀ k, k < 3 → parseFieldDescriptor (TX4 k).2.2.1 = some (tyX4 k) := by decide +kernel
abbrev cX4_init : ByteArray := prog_6_method_1_code
def yX4_init : MethodName := ⟨RX4, "<init>", "()V"⟩
abbrev cX4_hasNothing : ByteArray := prog_6_method_2_code
def yX4_hasNothing : MethodName := ⟨RX4, "hasNothing", "()Z"⟩
abbrev cX4_renew : ByteArray := prog_6_method_3_code
def yX4_renew : MethodName := ⟨RX4, "renew", "(II)V"⟩
abbrev cX4_drop : ByteArray := prog_6_method_4_code
def yX4_drop : MethodName := ⟨RX4, "drop", "()V"⟩
abbrev cX4_faultAs : ByteArray := prog_6_method_5_code
def yX4_faultAs : MethodName := ⟨RX4, "faultAs", "(III)I"⟩
abbrev cX4_faultOf : ByteArray := prog_6_method_6_code
def yX4_faultOf : MethodName := ⟨RX4, "faultOf", "(II)I"⟩
abbrev cX4_faultOfCopy : ByteArray := prog_6_method_7_code
def yX4_faultOfCopy : MethodName := ⟨RX4, "faultOfCopy", "(ILDifferRings$Sheet;II)I"⟩
abbrev cX4_spans : ByteArray := prog_6_method_8_code
def yX4_spans : MethodName := ⟨RX4, "spans", "(II)Z"⟩
abbrev cX4_at : ByteArray := prog_6_method_9_code
def yX4_at : MethodName := ⟨RX4, "at", "(I)I"⟩
abbrev cX4_change : ByteArray := prog_6_method_10_code
def yX4_change : MethodName := ⟨RX4, "change", "(II)V"⟩
abbrev cX4_cut : ByteArray := prog_6_method_11_code
def yX4_cut : MethodName := ⟨RX4, "cut", "(I)I"⟩
def RX5 : String := "DifferRings$Spread"
def TX5 : u_T := fun k => match k with
  | 0 => ("DifferRings$Spread", "row", "[I", false)
  | 1 => ("DifferRings$Spread", "weight", "[I", false)
  | 2 => ("DifferRings$Spread", "place", "[I", false)
  | 3 => ("DifferRings$Spread", "unlike", "I", false)
  | _ => ("DifferRings$Spread", "age", "I", false)
def tyX5 : Nat → FieldType := fun k => match k with
  | 0 => .array .int
  | 1 => .array .int
  | 2 => .array .int
  | 3 => .int
  | _ => .int
abbrev wsX50 : List Cond := u_ws RX5 TX5 5
theorem nmX5 : ∀ a, a < 5 → ∀ b, b < 5 → a ≠ b → (TX5 a).2.1 ≠ (TX5 b).2.1 := by decide +kernel
theorem tyX5_ok : ∀ k, k < 5 → parseFieldDescriptor (TX5 k).2.2.1 = some (tyX5 k) := by decide +kernel
abbrev cX5_init : ByteArray := prog_7_method_1_code
def yX5_init : MethodName := ⟨RX5, "<init>", "()V"⟩
abbrev cX5_forget : ByteArray := prog_7_method_2_code
def yX5_forget : MethodName := ⟨RX5, "forget", "()V"⟩
abbrev cX5_goTo : ByteArray := prog_7_method_3_code
def yX5_goTo : MethodName := ⟨RX5, "goTo", "(LDifferRings$AllRows;I)V"⟩
abbrev cX5_begin : ByteArray := prog_7_method_4_code
def yX5_begin : MethodName := ⟨RX5, "begin", "(LDifferRings$AllRows;)V"⟩
abbrev cX5_stepAll : ByteArray := prog_7_method_5_code
def yX5_stepAll : MethodName := ⟨RX5, "stepAll", "(LDifferRings$AllRows;)V"⟩
abbrev cX5_howMany : ByteArray := prog_7_method_6_code
def yX5_howMany : MethodName := ⟨RX5, "howMany", "(LDifferRings$AllRows;II)I"⟩
def RX6 : String := "DifferRings$Text"
def TX6 : u_T := fun k => match k with
  | _ => ("", "", "", false)
def tyX6 : Nat → FieldType := fun k => match k with
  | _ => .int
abbrev wsX60 : List Cond := u_ws RX6 TX6 0
theorem nmX6 : ∀ a, a < 0 → ∀ b, b < 0 → a ≠ b → (TX6 a).2.1 ≠ (TX6 b).2.1 := by decide +kernel
theorem tyX6_ok : ∀ k, k < 0 → parseFieldDescriptor (TX6 k).2.2.1 = some (tyX6 k) := by decide +kernel
abbrev cX6_firstFault : ByteArray := prog_8_method_2_code
def yX6_firstFault : MethodName := ⟨RX6, "firstFault", "(LDifferRings$Sheet;II)I"⟩
abbrev cX6_goesOn : ByteArray := prog_8_method_3_code
def yX6_goesOn : MethodName := ⟨RX6, "goesOn", "(III)Z"⟩
abbrev cX6_kindOf : ByteArray := prog_8_method_4_code
def yX6_kindOf : MethodName := ⟨RX6, "kindOf", "(I)I"⟩
abbrev cX6_take : ByteArray := prog_8_method_5_code
def yX6_take : MethodName := ⟨RX6, "take", "(LDifferRings$Sheet;IILDifferRings$Ring;)V"⟩
def RX7 : String := "DifferRings"
def TX7 : u_T := fun k => match k with
  | 0 => ("DifferRings", "sheets", "[LDifferRings$Sheet;", true)
  | 1 => ("DifferRings", "live", "LDifferRings$Ring;", true)
  | 2 => ("DifferRings", "trial", "LDifferRings$Ring;", true)
  | 3 => ("DifferRings", "all", "LDifferRings$AllRows;", true)
  | 4 => ("DifferRings", "spread", "LDifferRings$Spread;", true)
  | 5 => ("DifferRings", "readings", "LDifferRings$Readings;", true)
  | 6 => ("DifferRings", "played", "LDifferRings$Day;", true)
  | 7 => ("DifferRings", "done", "I", false)
  | 8 => ("DifferRings", "traced", "I", false)
  | _ => ("DifferRings", "faulted", "I", false)
def tyX7 : Nat → FieldType := fun k => match k with
  | 0 => .array (.object "DifferRings$Sheet")
  | 1 => .object "DifferRings$Ring"
  | 2 => .object "DifferRings$Ring"
  | 3 => .object "DifferRings$AllRows"
  | 4 => .object "DifferRings$Spread"
  | 5 => .object "DifferRings$Readings"
  | 6 => .object "DifferRings$Day"
  | 7 => .int
  | 8 => .int
  | _ => .int
abbrev wsX70 : List Cond := u_ws RX7 TX7 10
theorem nmX7 : ∀ a, a < 10 → ∀ b, b < 10 → a ≠ b → (TX7 a).2.1 ≠ (TX7 b).2.1 := by decide +kernel
theorem tyX7_ok : ∀ k, k < 10 → parseFieldDescriptor (TX7 k).2.2.1 = some (tyX7 k) := by decide +kernel
abbrev cX7_init : ByteArray := prog_1_method_1_code
def yX7_init : MethodName := ⟨RX7, "<init>", "()V"⟩
abbrev cX7_ring : ByteArray := prog_1_method_2_code
def yX7_ring : MethodName := ⟨RX7, "ring", "(IIII)I"⟩
abbrev cX7_ofPlace : ByteArray := prog_1_method_3_code
def yX7_ofPlace : MethodName := ⟨RX7, "ofPlace", "(II)I"⟩
abbrev cX7_write : ByteArray := prog_1_method_4_code
def yX7_write : MethodName := ⟨RX7, "write", "(II)I"⟩
abbrev cX7_steps : ByteArray := prog_1_method_5_code
def yX7_steps : MethodName := ⟨RX7, "steps", "(I)I"⟩
abbrev cX7_after : ByteArray := prog_1_method_6_code
def yX7_after : MethodName := ⟨RX7, "after", "(IJ)I"⟩
abbrev cX7_day : ByteArray := prog_1_method_7_code
def yX7_day : MethodName := ⟨RX7, "day", "(IIIII)I"⟩
abbrev cX7_ofDay : ByteArray := prog_1_method_8_code
def yX7_ofDay : MethodName := ⟨RX7, "ofDay", "(I)I"⟩
abbrev cX7_now : ByteArray := prog_1_method_9_code
def yX7_now : MethodName := ⟨RX7, "now", "(I)I"⟩
abbrev cX7_from : ByteArray := prog_1_method_10_code
def yX7_from : MethodName := ⟨RX7, "from", "(I)I"⟩
abbrev cX7_rows : ByteArray := prog_1_method_11_code
def yX7_rows : MethodName := ⟨RX7, "rows", "(I)I"⟩
abbrev cX7_longest : ByteArray := prog_1_method_12_code
def yX7_longest : MethodName := ⟨RX7, "longest", "(I)I"⟩
abbrev cX7_meet : ByteArray := prog_1_method_13_code
def yX7_meet : MethodName := ⟨RX7, "meet", "(III)I"⟩
abbrev cX7_few : ByteArray := prog_1_method_14_code
def yX7_few : MethodName := ⟨RX7, "few", "(I)I"⟩
abbrev cX7_reading : ByteArray := prog_1_method_15_code
def yX7_reading : MethodName := ⟨RX7, "reading", "(III)I"⟩
abbrev cX7_back : ByteArray := prog_1_method_16_code
def yX7_back : MethodName := ⟨RX7, "back", "(I)I"⟩
abbrev cX7_kinds : ByteArray := prog_1_method_17_code
def yX7_kinds : MethodName := ⟨RX7, "kinds", "(I)I"⟩
abbrev cX7_firsts : ByteArray := prog_1_method_18_code
def yX7_firsts : MethodName := ⟨RX7, "firsts", "(I)I"⟩
abbrev cX7_odds : ByteArray := prog_1_method_19_code
def yX7_odds : MethodName := ⟨RX7, "odds", "(IIII)J"⟩
abbrev cX7_sheet : ByteArray := prog_1_method_20_code
def yX7_sheet : MethodName := ⟨RX7, "sheet", "(III)I"⟩
abbrev cX7_lose : ByteArray := prog_1_method_21_code
def yX7_lose : MethodName := ⟨RX7, "lose", "(I)I"⟩
abbrev cX7_put : ByteArray := prog_1_method_22_code
def yX7_put : MethodName := ⟨RX7, "put", "(III)I"⟩
abbrev cX7_cell : ByteArray := prog_1_method_23_code
def yX7_cell : MethodName := ⟨RX7, "cell", "(III)J"⟩
abbrev cX7_copy : ByteArray := prog_1_method_24_code
def yX7_copy : MethodName := ⟨RX7, "copy", "(IIIII)I"⟩
abbrev cX7_tell : ByteArray := prog_1_method_25_code
def yX7_tell : MethodName := ⟨RX7, "tell", "(I)I"⟩
abbrev cX7_tellPlain : ByteArray := prog_1_method_26_code
def yX7_tellPlain : MethodName := ⟨RX7, "tellPlain", "(I)I"⟩
abbrev cX7_tellFar : ByteArray := prog_1_method_27_code
def yX7_tellFar : MethodName := ⟨RX7, "tellFar", "(I)I"⟩
abbrev cX7_tellMixed : ByteArray := prog_1_method_28_code
def yX7_tellMixed : MethodName := ⟨RX7, "tellMixed", "(I)I"⟩
abbrev cX7_call : ByteArray := prog_1_method_29_code
def yX7_call : MethodName := ⟨RX7, "call", "(I)I"⟩
abbrev cX7_as : ByteArray := prog_1_method_30_code
def yX7_as : MethodName := ⟨RX7, "as", "(II)I"⟩
abbrev cX7_trace : ByteArray := prog_1_method_31_code
def yX7_trace : MethodName := ⟨RX7, "trace", "()I"⟩
abbrev cX7_fault : ByteArray := prog_1_method_32_code
def yX7_fault : MethodName := ⟨RX7, "fault", "()I"⟩
abbrev cX7_many : ByteArray := prog_1_method_33_code
def yX7_many : MethodName := ⟨RX7, "many", "(I)I"⟩
abbrev cX7_leave : ByteArray := prog_1_method_34_code
def yX7_leave : MethodName := ⟨RX7, "leave", "(I)V"⟩
abbrev cX7_answerOfFault : ByteArray := prog_1_method_35_code
def yX7_answerOfFault : MethodName := ⟨RX7, "answerOfFault", "()I"⟩
abbrev cX7_isSheet : ByteArray := prog_1_method_36_code
def yX7_isSheet : MethodName := ⟨RX7, "isSheet", "(I)Z"⟩
abbrev cX7_isLane : ByteArray := prog_1_method_37_code
def yX7_isLane : MethodName := ⟨RX7, "isLane", "(I)Z"⟩
abbrev cX7_isOfDay : ByteArray := prog_1_method_38_code
def yX7_isOfDay : MethodName := ⟨RX7, "isOfDay", "(I)Z"⟩
abbrev cX7_isReadable : ByteArray := prog_1_method_39_code
def yX7_isReadable : MethodName := ⟨RX7, "isReadable", "(II)Z"⟩
abbrev cX7_commonDivisor : ByteArray := prog_1_method_40_code
def yX7_commonDivisor : MethodName := ⟨RX7, "commonDivisor", "(II)I"⟩
def RX8 : String := "DifferRingsModel"
def TX8 : u_T := fun k => match k with
  | 0 => ("DifferRingsModel", "fault", "I", false)
  | 1 => ("DifferRingsModel", "places", "I", false)
  | 2 => ("DifferRingsModel", "base", "I", false)
  | 3 => ("DifferRingsModel", "stepsDone", "I", false)
  | 4 => ("DifferRingsModel", "kindOf", "[I", true)
  | 5 => ("DifferRingsModel", "numberOf", "[I", true)
  | 6 => ("DifferRingsModel", "readAt", "I", false)
  | 7 => ("DifferRingsModel", "readPlaces", "I", false)
  | 8 => ("DifferRingsModel", "readBase", "I", false)
  | 9 => ("DifferRingsModel", "readKind", "[I", true)
  | 10 => ("DifferRingsModel", "readNumber", "[I", true)
  | 11 => ("DifferRingsModel", "at", "[I", true)
  | 12 => ("DifferRingsModel", "then", "[I", true)
  | 13 => ("DifferRingsModel", "nextOf", "[I", true)
  | 14 => ("DifferRingsModel", "fromOf", "[I", true)
  | 15 => ("DifferRingsModel", "goneAt", "[I", true)
  | 16 => ("DifferRingsModel", "tailOf", "[I", true)
  | 17 => ("DifferRingsModel", "outOf", "[I", true)
  | 18 => ("DifferRingsModel", "gone", "I", false)
  | 19 => ("DifferRingsModel", "barren", "I", false)
  | 20 => ("DifferRingsModel", "dayOuts", "I", false)
  | 21 => ("DifferRingsModel", "daySteps", "I", false)
  | 22 => ("DifferRingsModel", "hadNumber", "[I", true)
  | 23 => ("DifferRingsModel", "readings", "I", false)
  | 24 => ("DifferRingsModel", "readingAt", "[I", true)
  | 25 => ("DifferRingsModel", "readingOf", "[I", true)
  | 26 => ("DifferRingsModel", "readingIs", "[I", true)
  | 27 => ("DifferRingsModel", "sheetSize", "[I", true)
  | 28 => ("DifferRingsModel", "sheetLane", "[I", true)
  | 29 => ("DifferRingsModel", "sheet", "[I", true)
  | 30 => ("DifferRingsModel", "hands", "[I", true)
  | _ => ("DifferRingsModel", "traceNow", "I", false)
def tyX8 : Nat → FieldType := fun k => match k with
  | 0 => .int
  | 1 => .int
  | 2 => .int
  | 3 => .int
  | 4 => .array .int
  | 5 => .array .int
  | 6 => .int
  | 7 => .int
  | 8 => .int
  | 9 => .array .int
  | 10 => .array .int
  | 11 => .array .int
  | 12 => .array .int
  | 13 => .array .int
  | 14 => .array .int
  | 15 => .array .int
  | 16 => .array .int
  | 17 => .array .int
  | 18 => .int
  | 19 => .int
  | 20 => .int
  | 21 => .int
  | 22 => .array .int
  | 23 => .int
  | 24 => .array .int
  | 25 => .array .int
  | 26 => .array .int
  | 27 => .array .int
  | 28 => .array .int
  | 29 => .array .int
  | 30 => .array .int
  | _ => .int
abbrev wsX80 : List Cond := u_ws RX8 TX8 32
theorem nmX8 : ∀ a, a < 32 → ∀ b, b < 32 → a ≠ b → (TX8 a).2.1 ≠ (TX8 b).2.1 := by decide +kernel
theorem tyX8_ok : ∀ k, k < 32 → parseFieldDescriptor (TX8 k).2.2.1 = some (tyX8 k) := by decide +kernel
abbrev cX8_init : ByteArray := prog_10_method_1_code
def yX8_init : MethodName := ⟨RX8, "<init>", "()V"⟩
abbrev cX8_in : ByteArray := prog_10_method_2_code
def yX8_in : MethodName := ⟨RX8, "in", "(JJJ)Z"⟩
abbrev cX8_lost : ByteArray := prog_10_method_3_code
def yX8_lost : MethodName := ⟨RX8, "lost", "()J"⟩
abbrev cX8_bits : ByteArray := prog_10_method_4_code
def yX8_bits : MethodName := ⟨RX8, "bits", "(I)I"⟩
abbrev cX8_share : ByteArray := prog_10_method_5_code
def yX8_share : MethodName := ⟨RX8, "share", "(JJI)J"⟩
abbrev cX8_refused : ByteArray := prog_10_method_6_code
def yX8_refused : MethodName := ⟨RX8, "refused", "(I)I"⟩
abbrev cX8_failed : ByteArray := prog_10_method_7_code
def yX8_failed : MethodName := ⟨RX8, "failed", "(I)I"⟩
abbrev cX8_failedLong : ByteArray := prog_10_method_8_code
def yX8_failedLong : MethodName := ⟨RX8, "failedLong", "(I)J"⟩
abbrev cX8_noPlace : ByteArray := prog_10_method_9_code
def yX8_noPlace : MethodName := ⟨RX8, "noPlace", "(I)Z"⟩
abbrev cX8_codeAt : ByteArray := prog_10_method_10_code
def yX8_codeAt : MethodName := ⟨RX8, "codeAt", "(II)I"⟩
abbrev cX8_readsPlace : ByteArray := prog_10_method_11_code
def yX8_readsPlace : MethodName := ⟨RX8, "readsPlace", "(II)Z"⟩
abbrev cX8_readsRing : ByteArray := prog_10_method_12_code
def yX8_readsRing : MethodName := ⟨RX8, "readsRing", "(II)Z"⟩
abbrev cX8_cellsBarred : ByteArray := prog_10_method_13_code
def yX8_cellsBarred : MethodName := ⟨RX8, "cellsBarred", "(IIIJ)I"⟩
abbrev cX8_ring : ByteArray := prog_10_method_14_code
def yX8_ring : MethodName := ⟨RX8, "ring", "(IIII)I"⟩
abbrev cX8_apart : ByteArray := prog_10_method_15_code
def yX8_apart : MethodName := ⟨RX8, "apart", "(II)I"⟩
abbrev cX8_becomes : ByteArray := prog_10_method_16_code
def yX8_becomes : MethodName := ⟨RX8, "becomes", "(I)I"⟩
abbrev cX8_stepsOnce : ByteArray := prog_10_method_17_code
def yX8_stepsOnce : MethodName := ⟨RX8, "stepsOnce", "()V"⟩
abbrev cX8_takesNow : ByteArray := prog_10_method_18_code
def yX8_takesNow : MethodName := ⟨RX8, "takesNow", "()V"⟩
abbrev cX8_takesRow : ByteArray := prog_10_method_19_code
def yX8_takesRow : MethodName := ⟨RX8, "takesRow", "(I)V"⟩
abbrev cX8_rowAt : ByteArray := prog_10_method_20_code
def yX8_rowAt : MethodName := ⟨RX8, "rowAt", "()I"⟩
abbrev cX8_rowNow : ByteArray := prog_10_method_21_code
def yX8_rowNow : MethodName := ⟨RX8, "rowNow", "()I"⟩
abbrev cX8_allRows : ByteArray := prog_10_method_22_code
def yX8_allRows : MethodName := ⟨RX8, "allRows", "()I"⟩
abbrev cX8_ofPlace : ByteArray := prog_10_method_23_code
def yX8_ofPlace : MethodName := ⟨RX8, "ofPlace", "(II)I"⟩
abbrev cX8_isNumber : ByteArray := prog_10_method_24_code
def yX8_isNumber : MethodName := ⟨RX8, "isNumber", "(I)Z"⟩
abbrev cX8_write : ByteArray := prog_10_method_25_code
def yX8_write : MethodName := ⟨RX8, "write", "(II)I"⟩
abbrev cX8_zeros : ByteArray := prog_10_method_26_code
def yX8_zeros : MethodName := ⟨RX8, "zeros", "()I"⟩
abbrev cX8_doesSteps : ByteArray := prog_10_method_27_code
def yX8_doesSteps : MethodName := ⟨RX8, "doesSteps", "(I)V"⟩
abbrev cX8_steps : ByteArray := prog_10_method_28_code
def yX8_steps : MethodName := ⟨RX8, "steps", "(I)I"⟩
abbrev cX8_takesAway : ByteArray := prog_10_method_29_code
def yX8_takesAway : MethodName := ⟨RX8, "takesAway", "(I)V"⟩
abbrev cX8_tables : ByteArray := prog_10_method_30_code
def yX8_tables : MethodName := ⟨RX8, "tables", "()V"⟩
abbrev cX8_roundFrom : ByteArray := prog_10_method_31_code
def yX8_roundFrom : MethodName := ⟨RX8, "roundFrom", "(I)I"⟩
abbrev cX8_behind : ByteArray := prog_10_method_32_code
def yX8_behind : MethodName := ⟨RX8, "behind", "(IJ)I"⟩
abbrev cX8_roundOf : ByteArray := prog_10_method_33_code
def yX8_roundOf : MethodName := ⟨RX8, "roundOf", "(I)I"⟩
abbrev cX8_after : ByteArray := prog_10_method_34_code
def yX8_after : MethodName := ⟨RX8, "after", "(IJ)I"⟩
abbrev cX8_sumNow : ByteArray := prog_10_method_35_code
def yX8_sumNow : MethodName := ⟨RX8, "sumNow", "()I"⟩
abbrev cX8_doesPair : ByteArray := prog_10_method_36_code
def yX8_doesPair : MethodName := ⟨RX8, "doesPair", "(II)Z"⟩
abbrev cX8_tailNow : ByteArray := prog_10_method_37_code
def yX8_tailNow : MethodName := ⟨RX8, "tailNow", "()I"⟩
abbrev cX8_dayOf : ByteArray := prog_10_method_38_code
def yX8_dayOf : MethodName := ⟨RX8, "dayOf", "(III)I"⟩
abbrev cX8_day : ByteArray := prog_10_method_39_code
def yX8_day : MethodName := ⟨RX8, "day", "(IIIII)I"⟩
abbrev cX8_now : ByteArray := prog_10_method_40_code
def yX8_now : MethodName := ⟨RX8, "now", "(I)I"⟩
abbrev cX8_from : ByteArray := prog_10_method_41_code
def yX8_from : MethodName := ⟨RX8, "from", "(I)I"⟩
abbrev cX8_rounds : ByteArray := prog_10_method_42_code
def yX8_rounds : MethodName := ⟨RX8, "rounds", "()I"⟩
abbrev cX8_rows : ByteArray := prog_10_method_43_code
def yX8_rows : MethodName := ⟨RX8, "rows", "(I)I"⟩
abbrev cX8_longest : ByteArray := prog_10_method_44_code
def yX8_longest : MethodName := ⟨RX8, "longest", "(I)I"⟩
abbrev cX8_meet : ByteArray := prog_10_method_45_code
def yX8_meet : MethodName := ⟨RX8, "meet", "(III)I"⟩
abbrev cX8_unlikeNow : ByteArray := prog_10_method_46_code
def yX8_unlikeNow : MethodName := ⟨RX8, "unlikeNow", "(I)I"⟩
abbrev cX8_few : ByteArray := prog_10_method_47_code
def yX8_few : MethodName := ⟨RX8, "few", "(I)I"⟩
abbrev cX8_reading : ByteArray := prog_10_method_48_code
def yX8_reading : MethodName := ⟨RX8, "reading", "(III)I"⟩
abbrev cX8_back : ByteArray := prog_10_method_49_code
def yX8_back : MethodName := ⟨RX8, "back", "(I)I"⟩
abbrev cX8_isSo : ByteArray := prog_10_method_50_code
def yX8_isSo : MethodName := ⟨RX8, "isSo", "(I)Z"⟩
abbrev cX8_areSo : ByteArray := prog_10_method_51_code
def yX8_areSo : MethodName := ⟨RX8, "areSo", "()Z"⟩
abbrev cX8_kinds : ByteArray := prog_10_method_52_code
def yX8_kinds : MethodName := ⟨RX8, "kinds", "(I)I"⟩
abbrev cX8_firsts : ByteArray := prog_10_method_53_code
def yX8_firsts : MethodName := ⟨RX8, "firsts", "(I)I"⟩
abbrev cX8_odds : ByteArray := prog_10_method_54_code
def yX8_odds : MethodName := ⟨RX8, "odds", "(IIII)J"⟩
abbrev cX8_noSheet : ByteArray := prog_10_method_55_code
def yX8_noSheet : MethodName := ⟨RX8, "noSheet", "(I)Z"⟩
abbrev cX8_sheet : ByteArray := prog_10_method_56_code
def yX8_sheet : MethodName := ⟨RX8, "sheet", "(III)I"⟩
abbrev cX8_lose : ByteArray := prog_10_method_57_code
def yX8_lose : MethodName := ⟨RX8, "lose", "(I)I"⟩
abbrev cX8_noCell : ByteArray := prog_10_method_58_code
def yX8_noCell : MethodName := ⟨RX8, "noCell", "(II)I"⟩
abbrev cX8_put : ByteArray := prog_10_method_59_code
def yX8_put : MethodName := ⟨RX8, "put", "(III)I"⟩
abbrev cX8_cell : ByteArray := prog_10_method_60_code
def yX8_cell : MethodName := ⟨RX8, "cell", "(III)J"⟩
abbrev cX8_isBeyond : ByteArray := prog_10_method_61_code
def yX8_isBeyond : MethodName := ⟨RX8, "isBeyond", "(IJI)Z"⟩
abbrev cX8_copy : ByteArray := prog_10_method_62_code
def yX8_copy : MethodName := ⟨RX8, "copy", "(IIIII)I"⟩
abbrev cX8_traced : ByteArray := prog_10_method_63_code
def yX8_traced : MethodName := ⟨RX8, "traced", "(I)V"⟩
abbrev cX8_tell : ByteArray := prog_10_method_64_code
def yX8_tell : MethodName := ⟨RX8, "tell", "(I)I"⟩
abbrev cX8_call : ByteArray := prog_10_method_65_code
def yX8_call : MethodName := ⟨RX8, "call", "(I)I"⟩
abbrev cX8_as : ByteArray := prog_10_method_66_code
def yX8_as : MethodName := ⟨RX8, "as", "(II)I"⟩
abbrev cX8_trace : ByteArray := prog_10_method_67_code
def yX8_trace : MethodName := ⟨RX8, "trace", "()I"⟩
abbrev cX8_fault : ByteArray := prog_10_method_68_code
def yX8_fault : MethodName := ⟨RX8, "fault", "()I"⟩
abbrev cX8_many : ByteArray := prog_10_method_69_code
def yX8_many : MethodName := ⟨RX8, "many", "(I)I"⟩
def RJ6 : String := "java/lang/Integer"
def TJ6 : u_T := fun k => match k with
  | _ => ("", "", "", false)
def tyJ6 : Nat → FieldType := fun k => match k with
  | _ => .int
abbrev wsJ60 : List Cond := u_ws RJ6 TJ6 0
theorem nmJ6 : ∀ a, a < 0 → ∀ b, b < 0 → a ≠ b → (TJ6 a).2.1 ≠ (TJ6 b).2.1 := by decide +kernel
theorem tyJ6_ok : ∀ k, k < 0 → parseFieldDescriptor (TJ6 k).2.2.1 = some (tyJ6 k) := by decide +kernel
abbrev cJ6_bitCount_0f7a4 : ByteArray := prog_11_method_49_code
def yJ6_bitCount_0f7a4 : MethodName := ⟨RJ6, "bitCount", "(I)I"⟩
def RJ9 : String := "java/lang/Math"
def TJ9 : u_T := fun k => match k with
  | _ => ("", "", "", false)
def tyJ9 : Nat → FieldType := fun k => match k with
  | _ => .int
abbrev wsJ90 : List Cond := u_ws RJ9 TJ9 0
theorem nmJ9 : ∀ a, a < 0 → ∀ b, b < 0 → a ≠ b → (TJ9 a).2.1 ≠ (TJ9 b).2.1 := by decide +kernel
theorem tyJ9_ok : ∀ k, k < 0 → parseFieldDescriptor (TJ9 k).2.2.1 = some (tyJ9 k) := by decide +kernel
abbrev cJ9_abs_0f7a4 : ByteArray := prog_12_method_59_code
def yJ9_abs_0f7a4 : MethodName := ⟨RJ9, "abs", "(I)I"⟩
abbrev cJ9_max_7cf53 : ByteArray := prog_12_method_65_code
def yJ9_max_7cf53 : MethodName := ⟨RJ9, "max", "(II)I"⟩
abbrev cJ9_min_7cf53 : ByteArray := prog_12_method_69_code
def yJ9_min_7cf53 : MethodName := ⟨RJ9, "min", "(II)I"⟩
def RJ10 : String := "java/lang/System"
def TJ10 : u_T := fun k => match k with
  | _ => ("", "", "", false)
def tyJ10 : Nat → FieldType := fun k => match k with
  | _ => .int
abbrev wsJ100 : List Cond := u_ws RJ10 TJ10 0
theorem nmJ10 : ∀ a, a < 0 → ∀ b, b < 0 → a ≠ b → (TJ10 a).2.1 ≠ (TJ10 b).2.1 := by decide +kernel
theorem tyJ10_ok : ∀ k, k < 0 → parseFieldDescriptor (TJ10 k).2.2.1 = some (tyJ10 k) := by decide +kernel
def RJ7 : String := "java/util/Arrays"
def TJ7 : u_T := fun k => match k with
  | _ => ("", "", "", false)
def tyJ7 : Nat → FieldType := fun k => match k with
  | _ => .int
abbrev wsJ70 : List Cond := u_ws RJ7 TJ7 0
theorem nmJ7 : ∀ a, a < 0 → ∀ b, b < 0 → a ≠ b → (TJ7 a).2.1 ≠ (TJ7 b).2.1 := by decide +kernel
theorem tyJ7_ok : ∀ k, k < 0 → parseFieldDescriptor (TJ7 k).2.2.1 = some (tyJ7 k) := by decide +kernel
abbrev cJ7_fill_53178 : ByteArray := prog_14_method_103_code
def yJ7_fill_53178 : MethodName := ⟨RJ7, "fill", "([II)V"⟩
def RL : String := "DifferRingsLaw"
abbrev cL_law : ByteArray := code
def yL_law : MethodName := ⟨RL, "law", "([I)Z"⟩
abbrev vwCl : List vw_C := [(RX0, TX0, 14), (RX1, TX1, 3), (RX2, TX2, 4), (RX3, TX3, 5), (RX4, TX4, 3), (RX5, TX5, 5), (RX7, TX7, 10), (RX8, TX8, 32)]
abbrev am_M : Type := MethodName × ByteArray × Nat × Option FieldType × Nat × Option (Nat × (Int → Int))
abbrev mX0_init : am_M := (yX0_init, cX0_init, 1, none, 2, none)
abbrev mX0_forget : am_M := (yX0_forget, cX0_forget, 1, none, 0, none)
abbrev mX0_workOut : am_M := (yX0_workOut, cX0_workOut, 3, none, 5, none)
abbrev mX0_makeRoom : am_M := (yX0_makeRoom, cX0_makeRoom, 1, none, 0, none)
abbrev mX0_findNext : am_M := (yX0_findNext, cX0_findNext, 2, none, 4, none)
abbrev mX0_orderThoseThatDoNotComeBack : am_M := (yX0_orderThoseThatDoNotComeBack, cX0_orderThoseThatDoNotComeBack, 3, none, 0, none)
abbrev mX0_findRounds : am_M := (yX0_findRounds, cX0_findRounds, 2, none, 1, none)
abbrev mX0_markRound : am_M := (yX0_markRound, cX0_markRound, 4, none, 0, none)
abbrev mX0_findTails : am_M := (yX0_findTails, cX0_findTails, 3, none, 0, none)
abbrev mX0_sumUp : am_M := (yX0_sumUp, cX0_sumUp, 2, none, 2, none)
abbrev mX0_isRow : am_M := (yX0_isRow, cX0_isRow, 2, (some .boolean), 0, none)
abbrev mX0_nextOf : am_M := (yX0_nextOf, cX0_nextOf, 2, (some .int), 1, none)
abbrev mX0_tailOf : am_M := (yX0_tailOf, cX0_tailOf, 2, (some .int), 1, none)
abbrev mX0_roundOf : am_M := (yX0_roundOf, cX0_roundOf, 5, (some .int), 2, none)
abbrev mX0_goesOut : am_M := (yX0_goesOut, cX0_goesOut, 2, (some .boolean), 1, none)
abbrev mX0_behind : am_M := (yX0_behind, cX0_behind, 11, (some .int), 3, none)
abbrev mX0_comersOf : am_M := (yX0_comersOf, cX0_comersOf, 4, (some .int), 0, none)
abbrev mX0_firstComerOf : am_M := (yX0_firstComerOf, cX0_firstComerOf, 3, (some .int), 0, none)
abbrev mX0_meeting : am_M := (yX0_meeting, cX0_meeting, 6, (some .int), 2, none)
abbrev mX0_leastSetToGoOut : am_M := (yX0_leastSetToGoOut, cX0_leastSetToGoOut, 6, (some .int), 2, none)
abbrev mX0_unlikePlaces : am_M := (yX0_unlikePlaces, cX0_unlikePlaces, 7, (some .int), 0, none)
abbrev mX0_numberIn : am_M := (yX0_numberIn, cX0_numberIn, 5, (some .int), 0, none)
abbrev mX1_init : am_M := (yX1_init, cX1_init, 1, none, 1, none)
abbrev mX1_areActs : am_M := (yX1_areActs, cX1_areActs, 6, (some .boolean), 1, none)
abbrev mX1_isAct : am_M := (yX1_isAct, cX1_isAct, 2, (some .boolean), 0, none)
abbrev mX1_play : am_M := (yX1_play, cX1_play, 6, none, 5, none)
abbrev mX1_canDo : am_M := (yX1_canDo, cX1_canDo, 4, (some .boolean), 4, none)
abbrev mX2_init : am_M := (yX2_init, cX2_init, 1, none, 1, none)
abbrev mX2_keep : am_M := (yX2_keep, cX2_keep, 4, (some .int), 0, none)
abbrev mX2_areSo : am_M := (yX2_areSo, cX2_areSo, 4, (some .boolean), 4, none)
abbrev mX2_lastTime : am_M := (yX2_lastTime, cX2_lastTime, 3, (some .int), 1, none)
abbrev mX2_areSoAt : am_M := (yX2_areSoAt, cX2_areSoAt, 4, (some .boolean), 0, none)
abbrev mX3_init : am_M := (yX3_init, cX3_init, 1, none, 1, none)
abbrev mX3_isNone : am_M := (yX3_isNone, cX3_isNone, 1, (some .boolean), 0, none)
abbrev mX3_has : am_M := (yX3_has, cX3_has, 2, (some .boolean), 0, none)
abbrev mX3_isNumber : am_M := (yX3_isNumber, cX3_isNumber, 2, (some .boolean), 0, none)
abbrev mX3_takeAll : am_M := (yX3_takeAll, cX3_takeAll, 2, none, 2, none)
abbrev mX3_takeKinds : am_M := (yX3_takeKinds, cX3_takeKinds, 2, none, 1, none)
abbrev mX3_takeRow : am_M := (yX3_takeRow, cX3_takeRow, 5, (some .boolean), 1, none)
abbrev mX3_takeFirstRow : am_M := (yX3_takeFirstRow, cX3_takeFirstRow, 1, none, 1, none)
abbrev mX3_takeNextRow : am_M := (yX3_takeNextRow, cX3_takeNextRow, 2, none, 0, none)
abbrev mX3_stepped : am_M := (yX3_stepped, cX3_stepped, 4, (some .int), 2, none)
abbrev mX3_howFar : am_M := (yX3_howFar, cX3_howFar, 4, (some .int), 1, none)
abbrev mX3_go : am_M := (yX3_go, cX3_go, 4, none, 3, none)
abbrev mX3_zeros : am_M := (yX3_zeros, cX3_zeros, 3, (some .int), 0, none)
abbrev mX3_isOut : am_M := (yX3_isOut, cX3_isOut, 1, (some .boolean), 1, none)
abbrev mX3_total : am_M := (yX3_total, cX3_total, 3, (some .int), 0, none)
abbrev mX3_code : am_M := (yX3_code, cX3_code, 3, (some .int), 0, none)
abbrev mX3_steppedCode : am_M := (yX3_steppedCode, cX3_steppedCode, 3, (some .int), 3, none)
abbrev mX4_init : am_M := (yX4_init, cX4_init, 1, none, 1, none)
abbrev mX4_hasNothing : am_M := (yX4_hasNothing, cX4_hasNothing, 1, (some .boolean), 0, none)
abbrev mX4_renew : am_M := (yX4_renew, cX4_renew, 3, none, 1, none)
abbrev mX4_drop : am_M := (yX4_drop, cX4_drop, 1, none, 0, none)
abbrev mX4_faultAs : am_M := (yX4_faultAs, cX4_faultAs, 4, (some .int), 2, none)
abbrev mX4_faultOf : am_M := (yX4_faultOf, cX4_faultOf, 3, (some .int), 1, none)
abbrev mX4_faultOfCopy : am_M := (yX4_faultOfCopy, cX4_faultOfCopy, 5, (some .int), 1, none)
abbrev mX4_spans : am_M := (yX4_spans, cX4_spans, 3, (some .boolean), 0, none)
abbrev mX4_at : am_M := (yX4_at, cX4_at, 2, (some .int), 0, none)
abbrev mX4_change : am_M := (yX4_change, cX4_change, 3, none, 1, none)
abbrev mX4_cut : am_M := (yX4_cut, cX4_cut, 2, (some .int), 0, none)
abbrev mX5_init : am_M := (yX5_init, cX5_init, 1, none, 1, none)
abbrev mX5_forget : am_M := (yX5_forget, cX5_forget, 1, none, 0, none)
abbrev mX5_goTo : am_M := (yX5_goTo, cX5_goTo, 4, none, 3, none)
abbrev mX5_begin : am_M := (yX5_begin, cX5_begin, 3, none, 0, none)
abbrev mX5_stepAll : am_M := (yX5_stepAll, cX5_stepAll, 6, none, 2, none)
abbrev mX5_howMany : am_M := (yX5_howMany, cX5_howMany, 6, (some .int), 1, none)
abbrev mX6_firstFault : am_M := (yX6_firstFault, cX6_firstFault, 6, (some .int), 2, none)
abbrev mX6_goesOn : am_M := (yX6_goesOn, cX6_goesOn, 3, (some .boolean), 1, none)
abbrev mX6_kindOf : am_M := (yX6_kindOf, cX6_kindOf, 1, (some .int), 0, none)
abbrev mX6_take : am_M := (yX6_take, cX6_take, 6, none, 1, none)
abbrev mX7_init : am_M := (yX7_init, cX7_init, 2, none, 3, none)
abbrev mX7_ring : am_M := (yX7_ring, cX7_ring, 7, (some .int), 3, none)
abbrev mX7_ofPlace : am_M := (yX7_ofPlace, cX7_ofPlace, 3, (some .int), 3, none)
abbrev mX7_write : am_M := (yX7_write, cX7_write, 4, (some .int), 1, none)
abbrev mX7_steps : am_M := (yX7_steps, cX7_steps, 2, (some .int), 4, none)
abbrev mX7_after : am_M := (yX7_after, cX7_after, 4, (some .int), 6, none)
abbrev mX7_day : am_M := (yX7_day, cX7_day, 7, (some .int), 7, none)
abbrev mX7_ofDay : am_M := (yX7_ofDay, cX7_ofDay, 3, (some .int), 6, none)
abbrev mX7_now : am_M := (yX7_now, cX7_now, 3, (some .int), 6, none)
abbrev mX7_from : am_M := (yX7_from, cX7_from, 3, (some .int), 6, none)
abbrev mX7_rows : am_M := (yX7_rows, cX7_rows, 2, (some .int), 6, none)
abbrev mX7_longest : am_M := (yX7_longest, cX7_longest, 2, (some .int), 6, none)
abbrev mX7_meet : am_M := (yX7_meet, cX7_meet, 5, (some .int), 6, none)
abbrev mX7_few : am_M := (yX7_few, cX7_few, 3, (some .int), 6, none)
abbrev mX7_reading : am_M := (yX7_reading, cX7_reading, 4, (some .int), 1, none)
abbrev mX7_back : am_M := (yX7_back, cX7_back, 2, (some .int), 0, none)
abbrev mX7_kinds : am_M := (yX7_kinds, cX7_kinds, 4, (some .int), 5, none)
abbrev mX7_firsts : am_M := (yX7_firsts, cX7_firsts, 4, (some .int), 5, none)
abbrev mX7_odds : am_M := (yX7_odds, cX7_odds, 7, (some .long), 6, none)
abbrev mX7_sheet : am_M := (yX7_sheet, cX7_sheet, 4, (some .int), 2, none)
abbrev mX7_lose : am_M := (yX7_lose, cX7_lose, 3, (some .int), 1, none)
abbrev mX7_put : am_M := (yX7_put, cX7_put, 4, (some .int), 2, none)
abbrev mX7_cell : am_M := (yX7_cell, cX7_cell, 4, (some .long), 3, none)
abbrev mX7_copy : am_M := (yX7_copy, cX7_copy, 8, (some .int), 2, none)
abbrev mX7_tell : am_M := (yX7_tell, cX7_tell, 2, (some .int), 4, none)
abbrev mX7_tellPlain : am_M := (yX7_tellPlain, cX7_tellPlain, 2, (some .int), 1, none)
abbrev mX7_tellFar : am_M := (yX7_tellFar, cX7_tellFar, 2, (some .int), 2, none)
abbrev mX7_tellMixed : am_M := (yX7_tellMixed, cX7_tellMixed, 3, (some .int), 3, none)
abbrev mX7_call : am_M := (yX7_call, cX7_call, 2, (some .int), 1, none)
abbrev mX7_as : am_M := (yX7_as, cX7_as, 3, (some .int), 1, none)
abbrev mX7_trace : am_M := (yX7_trace, cX7_trace, 1, (some .int), 0, none)
abbrev mX7_fault : am_M := (yX7_fault, cX7_fault, 1, (some .int), 0, none)
abbrev mX7_many : am_M := (yX7_many, cX7_many, 2, (some .int), 1, none)
abbrev mX7_leave : am_M := (yX7_leave, cX7_leave, 2, none, 0, none)
abbrev mX7_answerOfFault : am_M := (yX7_answerOfFault, cX7_answerOfFault, 1, (some .int), 0, none)
abbrev mX7_isSheet : am_M := (yX7_isSheet, cX7_isSheet, 1, (some .boolean), 0, none)
abbrev mX7_isLane : am_M := (yX7_isLane, cX7_isLane, 1, (some .boolean), 0, none)
abbrev mX7_isOfDay : am_M := (yX7_isOfDay, cX7_isOfDay, 1, (some .boolean), 0, none)
abbrev mX7_isReadable : am_M := (yX7_isReadable, cX7_isReadable, 2, (some .boolean), 0, none)
abbrev mX7_commonDivisor : am_M := (yX7_commonDivisor, cX7_commonDivisor, 6, (some .int), 0, none)
abbrev mX8_init : am_M := (yX8_init, cX8_init, 2, none, 1, none)
abbrev mX8_in : am_M := (yX8_in, cX8_in, 6, (some .boolean), 0, none)
abbrev mX8_lost : am_M := (yX8_lost, cX8_lost, 0, (some .long), 0, none)
abbrev mX8_bits : am_M := (yX8_bits, cX8_bits, 3, (some .int), 0, none)
abbrev mX8_share : am_M := (yX8_share, cX8_share, 11, (some .long), 0, none)
abbrev mX8_refused : am_M := (yX8_refused, cX8_refused, 2, (some .int), 0, none)
abbrev mX8_failed : am_M := (yX8_failed, cX8_failed, 2, (some .int), 0, none)
abbrev mX8_failedLong : am_M := (yX8_failedLong, cX8_failedLong, 2, (some .long), 1, none)
abbrev mX8_noPlace : am_M := (yX8_noPlace, cX8_noPlace, 2, (some .boolean), 1, none)
abbrev mX8_codeAt : am_M := (yX8_codeAt, cX8_codeAt, 3, (some .int), 0, none)
abbrev mX8_readsPlace : am_M := (yX8_readsPlace, cX8_readsPlace, 5, (some .boolean), 1, none)
abbrev mX8_readsRing : am_M := (yX8_readsRing, cX8_readsRing, 4, (some .boolean), 2, none)
abbrev mX8_cellsBarred : am_M := (yX8_cellsBarred, cX8_cellsBarred, 6, (some .int), 1, none)
abbrev mX8_ring : am_M := (yX8_ring, cX8_ring, 7, (some .int), 3, none)
abbrev mX8_apart : am_M := (yX8_apart, cX8_apart, 2, (some .int), 0, none)
abbrev mX8_becomes : am_M := (yX8_becomes, cX8_becomes, 4, (some .int), 1, none)
abbrev mX8_stepsOnce : am_M := (yX8_stepsOnce, cX8_stepsOnce, 2, none, 2, none)
abbrev mX8_takesNow : am_M := (yX8_takesNow, cX8_takesNow, 2, none, 0, none)
abbrev mX8_takesRow : am_M := (yX8_takesRow, cX8_takesRow, 4, none, 0, none)
abbrev mX8_rowAt : am_M := (yX8_rowAt, cX8_rowAt, 3, (some .int), 0, none)
abbrev mX8_rowNow : am_M := (yX8_rowNow, cX8_rowNow, 1, (some .int), 1, none)
abbrev mX8_allRows : am_M := (yX8_allRows, cX8_allRows, 3, (some .int), 0, none)
abbrev mX8_ofPlace : am_M := (yX8_ofPlace, cX8_ofPlace, 3, (some .int), 2, none)
abbrev mX8_isNumber : am_M := (yX8_isNumber, cX8_isNumber, 2, (some .boolean), 1, none)
abbrev mX8_write : am_M := (yX8_write, cX8_write, 4, (some .int), 2, none)
abbrev mX8_zeros : am_M := (yX8_zeros, cX8_zeros, 3, (some .int), 0, none)
abbrev mX8_doesSteps : am_M := (yX8_doesSteps, cX8_doesSteps, 3, none, 3, none)
abbrev mX8_steps : am_M := (yX8_steps, cX8_steps, 2, (some .int), 4, none)
abbrev mX8_takesAway : am_M := (yX8_takesAway, cX8_takesAway, 2, none, 0, none)
abbrev mX8_tables : am_M := (yX8_tables, cX8_tables, 4, none, 3, none)
abbrev mX8_roundFrom : am_M := (yX8_roundFrom, cX8_roundFrom, 4, (some .int), 0, none)
abbrev mX8_behind : am_M := (yX8_behind, cX8_behind, 7, (some .int), 0, none)
abbrev mX8_roundOf : am_M := (yX8_roundOf, cX8_roundOf, 2, (some .int), 1, none)
abbrev mX8_after : am_M := (yX8_after, cX8_after, 7, (some .int), 4, none)
abbrev mX8_sumNow : am_M := (yX8_sumNow, cX8_sumNow, 3, (some .int), 0, none)
abbrev mX8_doesPair : am_M := (yX8_doesPair, cX8_doesPair, 3, (some .boolean), 4, none)
abbrev mX8_tailNow : am_M := (yX8_tailNow, cX8_tailNow, 2, (some .int), 4, none)
abbrev mX8_dayOf : am_M := (yX8_dayOf, cX8_dayOf, 6, (some .int), 5, none)
abbrev mX8_day : am_M := (yX8_day, cX8_day, 11, (some .int), 6, none)
abbrev mX8_now : am_M := (yX8_now, cX8_now, 3, (some .int), 4, none)
abbrev mX8_from : am_M := (yX8_from, cX8_from, 6, (some .int), 4, none)
abbrev mX8_rounds : am_M := (yX8_rounds, cX8_rounds, 6, (some .int), 1, none)
abbrev mX8_rows : am_M := (yX8_rows, cX8_rows, 6, (some .int), 4, none)
abbrev mX8_longest : am_M := (yX8_longest, cX8_longest, 4, (some .int), 4, none)
abbrev mX8_meet : am_M := (yX8_meet, cX8_meet, 8, (some .int), 4, none)
abbrev mX8_unlikeNow : am_M := (yX8_unlikeNow, cX8_unlikeNow, 4, (some .int), 1, none)
abbrev mX8_few : am_M := (yX8_few, cX8_few, 6, (some .int), 4, none)
abbrev mX8_reading : am_M := (yX8_reading, cX8_reading, 4, (some .int), 2, none)
abbrev mX8_back : am_M := (yX8_back, cX8_back, 2, (some .int), 1, none)
abbrev mX8_isSo : am_M := (yX8_isSo, cX8_isSo, 3, (some .boolean), 3, none)
abbrev mX8_areSo : am_M := (yX8_areSo, cX8_areSo, 3, (some .boolean), 4, none)
abbrev mX8_kinds : am_M := (yX8_kinds, cX8_kinds, 5, (some .int), 5, none)
abbrev mX8_firsts : am_M := (yX8_firsts, cX8_firsts, 5, (some .int), 5, none)
abbrev mX8_odds : am_M := (yX8_odds, cX8_odds, 8, (some .long), 4, none)
abbrev mX8_noSheet : am_M := (yX8_noSheet, cX8_noSheet, 1, (some .boolean), 1, none)
abbrev mX8_sheet : am_M := (yX8_sheet, cX8_sheet, 5, (some .int), 2, none)
abbrev mX8_lose : am_M := (yX8_lose, cX8_lose, 3, (some .int), 2, none)
abbrev mX8_noCell : am_M := (yX8_noCell, cX8_noCell, 3, (some .int), 1, none)
abbrev mX8_put : am_M := (yX8_put, cX8_put, 4, (some .int), 2, none)
abbrev mX8_cell : am_M := (yX8_cell, cX8_cell, 4, (some .long), 2, none)
abbrev mX8_isBeyond : am_M := (yX8_isBeyond, cX8_isBeyond, 4, (some .boolean), 0, none)
abbrev mX8_copy : am_M := (yX8_copy, cX8_copy, 7, (some .int), 2, none)
abbrev mX8_traced : am_M := (yX8_traced, cX8_traced, 2, none, 0, none)
abbrev mX8_tell : am_M := (yX8_tell, cX8_tell, 4, (some .int), 2, none)
abbrev mX8_call : am_M := (yX8_call, cX8_call, 2, (some .int), 2, none)
abbrev mX8_as : am_M := (yX8_as, cX8_as, 3, (some .int), 2, none)
abbrev mX8_trace : am_M := (yX8_trace, cX8_trace, 1, (some .int), 0, none)
abbrev mX8_fault : am_M := (yX8_fault, cX8_fault, 1, (some .int), 0, none)
abbrev mX8_many : am_M := (yX8_many, cX8_many, 2, (some .int), 1, none)
abbrev mJ6_bitCount_0f7a4 : am_M := (yJ6_bitCount_0f7a4, cJ6_bitCount_0f7a4, 1, (some .int), 0, none)
abbrev mJ9_abs_0f7a4 : am_M := (yJ9_abs_0f7a4, cJ9_abs_0f7a4, 1, (some .int), 0, none)
abbrev mJ9_max_7cf53 : am_M := (yJ9_max_7cf53, cJ9_max_7cf53, 2, (some .int), 0, none)
abbrev mJ9_min_7cf53 : am_M := (yJ9_min_7cf53, cJ9_min_7cf53, 2, (some .int), 0, none)
abbrev mJ7_fill_53178 : am_M := (yJ7_fill_53178, cJ7_fill_53178, 4, none, 0, none)
abbrev mL_law (L : Nat) (xs : Int → Int) : am_M := (yL_law, cL_law, 4, some .boolean, 10, some (L, xs))
def am_nest : List Cond := [.methodLinkNest RX7 17 yX4_init "DifferRings", .methodLinkNest RX7 20 yX3_init "DifferRings", .methodLinkNest RX7 30 yX0_init "DifferRings", .methodLinkNest RX0 11 yX3_init "DifferRings", .methodLinkNest RX7 37 yX5_init "DifferRings", .methodLinkNest RX7 44 yX2_init "DifferRings", .methodLinkNest RX7 51 yX1_init "DifferRings"]
end
section
/-! THE MACHINE SEEN FROM FARTHER OFF: values, locals and the world as whole numbers. -/
theorem am_goodIn_r {big : List Cond} (ws : List Cond) (ps : List Nat) (hp : ws = ps.filterMap (fun i => big[i]?)) : ∀ w ∈ ws, w ∈ big := by
  intro w hw
  rw [hp] at hw
  obtain ⟨i, -, hi⟩ := List.mem_filterMap.mp hw
  exact List.mem_of_getElem? hi
/-- a word of the tables that stays -/
def am_T (w : Cond) : Prop := w ∈ lw_tbl ∧ goodWord w = true
theorem am_inT (ws : List Cond) (ps : List Nat) (hp : ws = ps.filterMap (fun i => tables_1[i]?)) (hg : ws.all goodWord = true) : ∀ w ∈ ws, am_T w :=
  fun w hw => ⟨List.mem_append_right _ (am_goodIn_r ws ps hp w hw), List.all_eq_true.mp hg w hw⟩
def am_G : List Cond := lw_tbl.filter goodWord
theorem am_G_iff {w : Cond} : w ∈ am_G ↔ am_T w := List.mem_filter
/-- values: an int, a long, a cell -/
abbrev am_V : Type := Int ⊕ Int ⊕ Int
/-- a world: what stands in a cell at a place -/
abbrev am_H : Type := Int → Int → Int
abbrev am_Q : Type := Option am_V → am_H → am_H → Prop
def am_I (x : Int) : am_V := .inl x
def am_L (x : Int) : am_V := .inr (.inl x)
def am_R (x : Int) : am_V := .inr (.inr x)
def am_okI (x : Int) : Prop := -2147483648 ≤ x ∧ x < 2147483648
def am_okJ (x : Int) : Prop := -9223372036854775808 ≤ x ∧ x < 9223372036854775808
def am_okV (n : Int) (v : am_V) : Prop := match v with
  | .inl x => am_okI x
  | .inr (.inl x) => am_okJ x
  | .inr (.inr x) => x < n
def am_c (ad : Int → Nat) (v : am_V) : Value := match v with
  | .inl x => .int (Int32.ofInt x)
  | .inr (.inl x) => .long (Int64.ofInt x)
  | .inr (.inr x) => .ref (ad x)
theorem am_c_I (ad : Int → Nat) (x : Int) : am_c ad (am_I x) = .int (Int32.ofInt x) := rfl
theorem am_c_L (ad : Int → Nat) (x : Int) : am_c ad (am_L x) = .long (Int64.ofInt x) := rfl
theorem am_c_R (ad : Int → Nat) (x : Int) : am_c ad (am_R x) = .ref (ad x) := rfl
theorem am_toInt {x : Int} (h : am_okI x) : (Int32.ofInt x).toInt = x := Int32.toInt_ofInt_of_le (by have := h.1; omega) (by have := h.2; omega)
theorem am_toIntJ {x : Int} (h : am_okJ x) : (Int64.ofInt x).toInt = x := Int64.toInt_ofInt_of_le (by have := h.1; omega) (by have := h.2; omega)
theorem am_inj {x y : Int} (hx : am_okI x) (hy : am_okI y) : Int32.ofInt x = Int32.ofInt y ↔ x = y := by
  rw [← Int32.toInt_inj, am_toInt hx, am_toInt hy]
theorem am_lt {x y : Int} (hx : am_okI x) (hy : am_okI y) : Int32.ofInt x < Int32.ofInt y ↔ x < y := by
  rw [Int32.lt_iff_toInt_lt, am_toInt hx, am_toInt hy]
theorem am_le {x y : Int} (hx : am_okI x) (hy : am_okI y) : Int32.ofInt x ≤ Int32.ofInt y ↔ x ≤ y := by
  rw [Int32.le_iff_toInt_le, am_toInt hx, am_toInt hy]
theorem am_injJ {x y : Int} (hx : am_okJ x) (hy : am_okJ y) : Int64.ofInt x = Int64.ofInt y ↔ x = y := by
  rw [← Int64.toInt_inj, am_toIntJ hx, am_toIntJ hy]
theorem am_ltJ {x y : Int} (hx : am_okJ x) (hy : am_okJ y) : Int64.ofInt x < Int64.ofInt y ↔ x < y := by
  rw [Int64.lt_iff_toInt_lt, am_toIntJ hx, am_toIntJ hy]
theorem am_ok0 : am_okI 0 := ⟨by decide, by decide⟩
theorem am_0 : Int32.ofInt 0 = 0 := by decide
theorem am_okw (x : Int32) : am_okI x.toInt := ⟨by have := x.le_toInt; omega, by have := x.toInt_lt; omega⟩
theorem am_okwJ (x : Int64) : am_okJ x.toInt := ⟨by have := x.le_toInt; omega, by have := x.toInt_lt; omega⟩
/-- what is left of a number in an int -/
def am_w (x : Int) : Int := (Int32.ofInt x).toInt
theorem am_w_ok (x : Int) : am_okI (am_w x) := am_okw _
theorem am_w_of (x : Int) : Int32.ofInt (am_w x) = Int32.ofInt x := Int32.ofInt_toInt _
theorem am_w_id {x : Int} (h : am_okI x) : am_w x = x := am_toInt h
/-- the listed locals -/
def am_lv (ad : Int → Nat) : Nat → List (Option am_V) → List (Nat × Value)
  | _, [] => []
  | i, none :: t => am_lv ad (i + 1) t
  | i, some v :: t => (i, am_c ad v) :: am_lv ad (i + 1) t
theorem am_lv_mem (ad : Int → Nat) : ∀ (ls : List (Option am_V)) (i : Nat) (q : Nat × Value), q ∈ am_lv ad i ls ↔ ∃ (j : Nat) (v : am_V), ls[j]? = some (some v) ∧ q = (i + j, am_c ad v)
  | [], i, q => by simp [am_lv]
  | none :: t, i, q => by
    rw [am_lv, am_lv_mem ad t (i + 1) q]
    constructor
    · rintro ⟨j, v, h, e⟩
      exact ⟨j + 1, v, by simpa using h, by rw [e]; congr 1; omega⟩
    · rintro ⟨j, v, h, e⟩
      cases j with
      | zero => simp at h
      | succ j => exact ⟨j, v, by simpa using h, by rw [e]; congr 1; omega⟩
  | some w :: t, i, q => by
    rw [am_lv, List.mem_cons, am_lv_mem ad t (i + 1) q]
    constructor
    · rintro (e | ⟨j, v, h, e⟩)
      · exact ⟨0, w, rfl, e⟩
      · exact ⟨j + 1, v, by simpa using h, by rw [e]; congr 1; omega⟩
    · rintro ⟨j, v, h, e⟩
      cases j with
      | zero =>
        simp at h
        subst h
        exact Or.inl e
      | succ j => exact Or.inr ⟨j, v, by simpa using h, by rw [e]; congr 1; omega⟩
theorem am_lv_at {ad : Int → Nat} {ls : List (Option am_V)} {lc : Array Slot} {n k : Nat} {v : am_V} (h : lv_has lc n (am_lv ad 0 ls)) (hk : ls[k]? = some (some v)) : lc[k]? = some (.val (am_c ad v)) :=
  h.2.2 (k, am_c ad v) ((am_lv_mem ad ls 0 _).mpr ⟨k, v, hk, by simp⟩)
/-- no long stands before the place -/
def am_nl (ls : List (Option am_V)) (k : Nat) : Bool := match k with
  | 0 => true
  | k + 1 => match ls[k]? with
    | some (some (.inr (.inl _))) => false
    | _ => true
theorem am_nl_cat {ad : Int → Nat} {ls : List (Option am_V)} {k j : Nat} {v : am_V} (h : am_nl ls k = true) (hj : ls[j]? = some (some v)) (e : j + 1 = k) : ¬ (am_c ad v).category = 2 := by
  subst e
  rcases v with x | x | x
  · intro q; cases q
  · simp [am_nl, hj] at h
  · intro q; cases q
theorem am_lv_store1 {ad : Int → Nat} {ls : List (Option am_V)} {lc : Array Slot} {n k : Nat} {v : am_V} (h : lv_has lc n ((k, am_c ad v) :: (am_lv ad 0 ls).filter (fun q => !(q.1 == k) && !(q.1 + 1 == k && q.2.category == 2)))) (hn : am_nl ls k = true) :
    lv_has lc n (am_lv ad 0 (ls.set k (some v))) := by
  refine ⟨h.1, h.2.1, fun q hq => ?_⟩
  obtain ⟨j, w, hj, rfl⟩ := (am_lv_mem ad _ 0 q).mp hq
  by_cases hjk : j = k
  · subst hjk
    by_cases hl : j < ls.length
    · rw [List.getElem?_set_self hl] at hj
      cases hj
      exact h.2.2 _ (by simp)
    · rw [List.getElem?_eq_none (by simp; omega)] at hj
      cases hj
  · rw [List.getElem?_set_ne (Ne.symm hjk)] at hj
    refine h.2.2 _ (List.mem_cons_of_mem _ (List.mem_filter.mpr ⟨(am_lv_mem ad ls 0 _).mpr ⟨j, w, hj, rfl⟩, ?_⟩))
    simp only [Nat.zero_add]
    by_cases e : j + 1 = k
    · have := am_nl_cat (ad := ad) hn hj e
      simp [hjk, this]
    · simp [hjk, e]
theorem am_lv_store2 {ad : Int → Nat} {ls : List (Option am_V)} {lc : Array Slot} {n k : Nat} {v : am_V} (h : lv_has lc n ((k, am_c ad v) :: (am_lv ad 0 ls).filter (fun q => !(q.1 == k) && (!(q.1 == k + 1) && !(q.1 + 1 == k && q.2.category == 2))))) (hn : am_nl ls k = true) :
    lv_has lc n (am_lv ad 0 ((ls.set k (some v)).set (k + 1) none)) := by
  refine ⟨h.1, h.2.1, fun q hq => ?_⟩
  obtain ⟨j, w, hj, rfl⟩ := (am_lv_mem ad _ 0 q).mp hq
  by_cases hj1 : j = k + 1
  · subst hj1
    by_cases hl : k + 1 < ls.length
    · rw [List.getElem?_set_self (by simpa using hl)] at hj
      cases hj
    · rw [List.getElem?_eq_none (by simp; omega)] at hj
      cases hj
  · rw [List.getElem?_set_ne (Ne.symm hj1)] at hj
    by_cases hjk : j = k
    · subst hjk
      by_cases hl : j < ls.length
      · rw [List.getElem?_set_self hl] at hj
        cases hj
        exact h.2.2 _ (by simp)
      · rw [List.getElem?_eq_none (by simp; omega)] at hj
        cases hj
    · rw [List.getElem?_set_ne (Ne.symm hjk)] at hj
      refine h.2.2 _ (List.mem_cons_of_mem _ (List.mem_filter.mpr ⟨(am_lv_mem ad ls 0 _).mpr ⟨j, w, hj, rfl⟩, ?_⟩))
      simp only [Nat.zero_add]
      by_cases e : j + 1 = k
      · have := am_nl_cat (ad := ad) hn hj e
        simp [hjk, hj1, this]
      · simp [hjk, hj1, e]
theorem am_lv_ext {ad ad' : Int → Nat} (n : Int) (he : ∀ x, x < n → ad' x = ad x) : ∀ (ls : List (Option am_V)) (i : Nat), (∀ v, some v ∈ ls → am_okV n v) → am_lv ad' i ls = am_lv ad i ls
  | [], i, _ => rfl
  | none :: t, i, h => am_lv_ext n he t (i + 1) (fun v hv => h v (List.mem_cons_of_mem _ hv))
  | some w :: t, i, h => by
    have hw := h w List.mem_cons_self
    have e : am_c ad' w = am_c ad w := by
      rcases w with x | x | x
      · rfl
      · rfl
      · show Value.ref (ad' x) = Value.ref (ad x)
        rw [he x hw]
    rw [am_lv, am_lv, e, am_lv_ext n he t (i + 1) (fun v hv => h v (List.mem_cons_of_mem _ hv))]
theorem am_c_ext {ad ad' : Int → Nat} {n : Int} (he : ∀ x, x < n → ad' x = ad x) {v : am_V} (h : am_okV n v) : am_c ad' v = am_c ad v := by
  rcases v with x | x | x
  · rfl
  · rfl
  · show Value.ref (ad' x) = Value.ref (ad x)
    rw [he x h]
theorem am_st_ext {ad ad' : Int → Nat} {n : Int} (he : ∀ x, x < n → ad' x = ad x) {st : List am_V} (h : ∀ v ∈ st, am_okV n v) : st.map (am_c ad') = st.map (am_c ad) :=
  List.map_congr_left fun v hv => am_c_ext he (h v hv)
theorem am_okV_mono {n n' : Int} (h : n ≤ n') {v : am_V} (hv : am_okV n v) : am_okV n' v := by
  rcases v with x | x | x
  · exact hv
  · exact hv
  · exact Int.lt_of_lt_of_le hv h
/-! the world -/
/-- of which kind a cell is: 0 .. 7 a class (vwCl), 8 a row of ints, 9 a row of sheets -/
def am_kinds : List Nat := [8, 6, 9, 4, 8, 4, 8, 4, 8, 4, 8, 3, 8, 8, 8, 3, 8, 8, 8, 0, 3, 8, 8, 8, 8, 8, 8, 8, 8, 5, 8, 8, 8, 2, 8, 8, 8, 1, 7]
def am_K (x : Int) : Nat := am_kinds.getD x.toNat 8
def am_N (ci : Nat) : Nat := [14, 3, 4, 5, 3, 5, 10, 32].getD ci 0
/-- which fields are ints -/
def am_isI (ci k : Nat) : Bool := match ci with
  | 0 => decide (6 ≤ k)
  | 1 => true
  | 2 => decide (k = 3)
  | 3 => decide (k < 2)
  | 4 => decide (k < 2)
  | 5 => decide (3 ≤ k)
  | 6 => decide (7 ≤ k)
  | _ => [0, 1, 2, 3, 6, 7, 8, 18, 19, 20, 21, 23, 31].contains k
def am_fv (ad : Int → Nat) (ρ h : am_H) (ci : Nat) (x : Int) (k : Nat) : Value :=
  if am_isI ci k = true then .int (Int32.ofInt (h x k)) else if ρ x k = 0 then .null else .ref (ad (ρ x k))
def am_E (cI cS : ClassId) (ad : Int → Nat) (ρ h : am_H) (x : Int) : va_E :=
  if am_K x = 8 then .inl (cI, ((ρ x (-1)).toNat, .inl (fun j => Int32.ofInt (h x j))))
  else if am_K x = 9 then .inl (cS, ((ρ x (-1)).toNat, .inr (.inr (.inr (.inr (fun j => if ρ x j = 0 then none else some (ad (ρ x j))))))))
  else .inr (am_K x, (List.range (am_N (am_K x))).map (am_fv ad ρ h (am_K x) x))
def am_ws (cI cS : ClassId) (ad : Int → Nat) (ρ h : am_H) : va_W := (List.range ((ρ 0 0).toNat - 1)).map (fun (j : Nat) => (ad ((j : Int) + 1), am_E cI cS ad ρ h ((j : Int) + 1)))
theorem am_ws_len (cI cS : ClassId) (ad : Int → Nat) (ρ h : am_H) : (am_ws cI cS ad ρ h).length = (ρ 0 0).toNat - 1 := by simp [am_ws]
theorem am_ws_get {cI cS : ClassId} {ad : Int → Nat} {ρ h : am_H} {x : Int} (h0 : 0 < x) (h1 : x < ρ 0 0) : (am_ws cI cS ad ρ h)[x.toNat - 1]? = some (ad x, am_E cI cS ad ρ h x) := by
  rw [am_ws, List.getElem?_map, List.getElem?_range (by omega)]
  have : ((x.toNat - 1 : Nat) : Int) + 1 = x := by omega
  simp [this]
theorem am_ws_at {cI cS : ClassId} {ad : Int → Nat} {ρ h : am_H} {k : Nat} {q : Nat × va_E} (hk : (am_ws cI cS ad ρ h)[k]? = some q) : (k : Int) + 1 < ρ 0 0 ∧ q = (ad ((k : Int) + 1), am_E cI cS ad ρ h ((k : Int) + 1)) := by
  have hl := (List.getElem?_eq_some_iff.mp hk).1
  rw [am_ws_len] at hl
  rw [am_ws, List.getElem?_map, List.getElem?_range (by omega)] at hk
  refine ⟨by omega, ?_⟩
  simpa using hk.symm
theorem am_ws_set {cI cS : ClassId} {ad : Int → Nat} {ρ h ρ' h' : am_H} {x : Int} (h0 : 0 < x) (hn : ρ' 0 0 = ρ 0 0) (he : ∀ y, 0 < y → y ≠ x → am_E cI cS ad ρ' h' y = am_E cI cS ad ρ h y) :
    am_ws cI cS ad ρ' h' = (am_ws cI cS ad ρ h).set (x.toNat - 1) (ad x, am_E cI cS ad ρ' h' x) := by
  apply List.ext_getElem?
  intro k
  by_cases hk : k < (ρ 0 0).toNat - 1
  · have hk' : k < (ρ' 0 0).toNat - 1 := by rw [hn]; exact hk
    have e1 : (am_ws cI cS ad ρ' h')[k]? = some (ad ((k : Int) + 1), am_E cI cS ad ρ' h' ((k : Int) + 1)) := by
      rw [am_ws, List.getElem?_map, List.getElem?_range hk']
      rfl
    have e2 : (am_ws cI cS ad ρ h)[k]? = some (ad ((k : Int) + 1), am_E cI cS ad ρ h ((k : Int) + 1)) := by
      rw [am_ws, List.getElem?_map, List.getElem?_range hk]
      rfl
    rw [e1]
    by_cases hx : k = x.toNat - 1
    · have : (k : Int) + 1 = x := by omega
      rw [hx, List.getElem?_set_self (by rw [am_ws_len]; omega), ← hx, this]
    · rw [List.getElem?_set_ne (Ne.symm hx), e2, he _ (by omega) (by omega)]
  · rw [List.getElem?_eq_none (by rw [am_ws_len, hn]; omega), List.getElem?_eq_none (by rw [List.length_set, am_ws_len]; omega)]
theorem am_ws_push {cI cS : ClassId} {ad ad' : Int → Nat} {ρ h ρ' h' : am_H} (h0 : 0 < ρ 0 0) (hn : ρ' 0 0 = ρ 0 0 + 1) (ha : ∀ y, y < ρ 0 0 → ad' y = ad y) (he : ∀ y, 0 < y → y < ρ 0 0 → am_E cI cS ad' ρ' h' y = am_E cI cS ad ρ h y) :
    am_ws cI cS ad' ρ' h' = am_ws cI cS ad ρ h ++ [(ad' (ρ 0 0), am_E cI cS ad' ρ' h' (ρ 0 0))] := by
  rw [am_ws, hn, show (ρ 0 0 + 1).toNat - 1 = ((ρ 0 0).toNat - 1) + 1 by omega, List.range_succ, List.map_append]
  congr 1
  · rw [am_ws]
    apply List.map_congr_left
    intro j hj
    have hj := List.mem_range.mp hj
    rw [ha _ (by omega), he _ (by omega) (by omega)]
  · have : (((ρ 0 0).toNat - 1 : Nat) : Int) + 1 = ρ 0 0 := by omega
    simp [this]
/-- one place written anew -/
def am_u (h : am_H) (x k v : Int) : am_H := fun y j => if y = x ∧ j = k then v else h y j
theorem am_u_s (h : am_H) (x k v : Int) : am_u h x k v x k = v := by simp [am_u]
theorem am_u_n {h : am_H} {x k v y j : Int} (e : ¬ (y = x ∧ j = k)) : am_u h x k v y j = h y j := by simp [am_u, e]
/-- a new cell -/
def am_newR (ρ : am_H) (len : Int) : am_H := fun y j => if y = ρ 0 0 then (if j = -1 then len else 0) else if y = 0 ∧ j = 0 then ρ 0 0 + 1 else ρ y j
def am_newH (ρ h : am_H) : am_H := fun y j => if y = ρ 0 0 then 0 else h y j
def am_rng (ρ h : am_H) : Prop := 0 < ρ 0 0 ∧ (∀ x k, am_okI (h x k)) ∧ (∀ x, 0 ≤ ρ x (-1) ∧ ρ x (-1) < 2147483648) ∧ ∀ x k, 0 < x → 0 ≤ k → 0 ≤ ρ x k ∧ ρ x k < ρ 0 0
theorem am_E_ext {cI cS : ClassId} {ad ad' : Int → Nat} {ρ h ρ' h' : am_H} {x n : Int} (hx : 0 < x) (hn : ∀ k, 0 ≤ k → ρ x k < n) (ha : ∀ y, y < n → ad' y = ad y) (e1 : ∀ k, ρ' x k = ρ x k) (e2 : ∀ k, 0 ≤ k → h' x k = h x k) : am_E cI cS ad' ρ' h' x = am_E cI cS ad ρ h x := by
  unfold am_E
  split
  · rw [e1]
    congr 3
    congr 1
    funext j
    rw [e2 j (by omega)]
  · split
    · have e3 : (fun j : Nat => if ρ' x j = 0 then none else some (ad' (ρ' x j))) = (fun j : Nat => if ρ x j = 0 then none else some (ad (ρ x j))) := funext fun j => by rw [e1, ha _ (hn j (by omega))]
      rw [e1, e3]
    · congr 2
      apply List.map_congr_left
      intro k _
      unfold am_fv
      rw [e1, e2 k (by omega), ha _ (hn k (by omega))]
theorem am_map_set {α : Type} (f g : Nat → α) (N k : Nat) (v : α) (hv : g k = v) (he : ∀ j, j ≠ k → g j = f j) : (List.range N).map g = ((List.range N).map f).set k v := by
  apply List.ext_getElem?
  intro j
  by_cases hj : j < N
  · rw [List.getElem?_map, List.getElem?_range hj]
    by_cases e : j = k
    · subst e
      rw [List.getElem?_set_self (by simpa using hj)]
      simp [hv]
    · rw [List.getElem?_set_ne (Ne.symm e), List.getElem?_map, List.getElem?_range hj]
      simp [he j e]
  · rw [List.getElem?_eq_none (by simpa using hj), List.getElem?_eq_none (by simpa using hj)]
end
section
/-! THE JUDGEMENT: from a place in a method, with these locals, this stack, this world, the method comes to its end with Q -/
/-- the words of nest mates, and the class of rows of sheets -/
def am_X (U : State) : Prop := (∀ w ∈ am_nest, va_Nw w U) ∧ va_AO RX4 U
theorem am_nestw : ∀ w ∈ am_nest, ∃ (a : String) (i : Nat) (x : MethodName) (h : String), w = .methodLinkNest a i x h := by
  intro w hw
  simp only [am_nest, List.mem_cons, List.not_mem_nil, or_false] at hw
  rcases hw with rfl | rfl | rfl | rfl | rfl | rfl | rfl <;> exact ⟨_, _, _, _, rfl⟩
theorem am_X.warm {s U : State} (hW : s.WarmedH U.vm) (h : am_X s) : am_X U := by
  refine ⟨fun w hw => ?_, va_AO.moved hW.alike h.2⟩
  have h1 := h.1 w hw
  obtain ⟨a, i, x, hh, rfl⟩ := am_nestw w hw
  exact va_Nw.warmM hW h1
theorem am_X.same {u U : State} (e : u.vm = U.vm) (h : am_X u) : am_X U := by
  refine ⟨fun w hw => ?_, va_AO.moved (by rw [e]; exact Vm.Alike.refl _) h.2⟩
  have h1 := h.1 w hw
  obtain ⟨a, i, x, hh, rfl⟩ := am_nestw w hw
  exact va_Nw.same rfl e h1
def am_Sc (S : Option (Nat × (Int → Int))) (A : Nat → Prop) (s : State) (b : Nat) : Prop := match S with
  | none => True
  | some (L, xs) => va_X b L (fun j => Int32.ofInt (xs j)) s s.heap ∧ b < s.heap.size ∧ ¬ A b ∧ L < 2147483648 ∧ ∀ j, am_okI (xs j)
def am_Rl (D : va_G) (cI cS : ClassId) (A : Nat → Prop) (s : State) (n0 : Int) (ad0 ad : Int → Nat) (ρ h : am_H) (H : Heap) (locs : List Loc) : Prop :=
  am_rng ρ h ∧ n0 ≤ ρ 0 0 ∧ (∀ x, x < n0 → ad x = ad0 x) ∧ va_P D vwCl (am_ws cI cS ad ρ h) H ∧ va_D A (am_ws cI cS ad ρ h) ∧ va_S A s.heap H locs
def am_rt (M : am_M) (pc : Nat) (r : Option am_V) : Prop :=
  (r = none ∧ M.2.2.2.1 = none ∧ decode M.2.1 pc = .ok (.return_, 1)) ∨ (∃ v, r = some (am_I v) ∧ M.2.2.2.1 = some .int ∧ decode M.2.1 pc = .ok (.ireturn, 1)) ∨
  (∃ v, r = some (am_I v) ∧ (v = 0 ∨ v = 1) ∧ M.2.2.2.1 = some .boolean ∧ decode M.2.1 pc = .ok (.ireturn, 1)) ∨ (∃ v, r = some (am_L v) ∧ M.2.2.2.1 = some .long ∧ decode M.2.1 pc = .ok (.lreturn, 1))
def am_Fx (M : am_M) (p : Program) (R : Room) (s : State) (m : MethodId) (args : Array Value) (meth : Method) (c : Code) (D : va_G) (cI cS : ClassId) (A : Nat → Prop) (n0 : Int) (ad0 : Int → Nat) : Prop :=
  (p.tables.exec = Jvm.exec ∧ c.code = M.2.1 ∧ c.maxLocals = M.2.2.1 ∧ s.vm.findClass M.1.cls = some m.cls) ∧ (∀ w, am_T w → w.before args s = true) ∧ (M.1.name = "<init>" → meth.name = "<init>") ∧
  va_K D vwCl [(cI, .int), (cS, .object RX4)] s ∧ (∀ q, s.heap.size ≤ q → A q) ∧ R.frames = M.2.2.2.2.1 ∧ R.locals = 36 * M.2.2.2.2.1 ∧ 0 < n0 ∧ am_Sc M.2.2.2.2.2 A s (ad0 (-1)) ∧ am_X s
def am_Cx (M : am_M) (Q : am_Q) (p : Program) (l : Launch) (e : Env) (R : Room) (s : State) (m : MethodId) (args : Array Value) (below : List Frame) (meth : Method) (c : Code) (Z : State → Prop) (D : va_G) (cI cS : ClassId) (A : Nat → Prop) (n0 : Int) (ad0 : Int → Nat) : Prop :=
  am_Fx M p R s m args meth c D cI cS A n0 ad0 ∧
  ∀ (r : Option am_V) (ρ h : am_H) (ad : Int → Nat) (H : Heap) (locs : List Loc) (cells slots : Nat) (lc : Array Slot) (pc : Nat), Q r ρ h → am_rt M pc r → am_Rl D cI cS A s n0 ad0 ad ρ h H locs → (∀ v, r = some v → am_okV (ρ 0 0) v) → cells ≤ R.cells → slots ≤ R.slots →
    W p l e R s m args below meth c H locs cells slots Z (F0 m pc lc (r.toList.map (am_c ad)))
def am_WP (M : am_M) (bc bs pc : Nat) (ls : List (Option am_V)) (st : List am_V) (ρ h : am_H) (Q : am_Q) : Prop :=
  ∀ (p : Program) (l : Launch) (e : Env) (R : Room) (s : State) (m : MethodId) (args : Array Value) (below : List Frame) (meth : Method) (c : Code) (Z : State → Prop) (D : va_G) (cI cS : ClassId) (A : Nat → Prop) (n0 : Int) (ad0 : Int → Nat),
    am_Cx M Q p l e R s m args below meth c Z D cI cS A n0 ad0 →
  ∀ (ad : Int → Nat) (H : Heap) (locs : List Loc) (cells slots : Nat) (lc : Array Slot), am_Rl D cI cS A s n0 ad0 ad ρ h H locs → (∀ v ∈ st, am_okV (ρ 0 0) v) → (∀ v, some v ∈ ls → am_okV (ρ 0 0) v) →
    lv_has lc M.2.2.1 (am_lv ad 0 ls) → cells + bc ≤ R.cells → slots + bs ≤ R.slots → W p l e R s m args below meth c H locs cells slots Z (F0 m pc lc (st.map (am_c ad)))
section AMR
variable {M : am_M} {bc bs pc pc' : Nat} {ls ls' : List (Option am_V)} {st st' : List am_V} {ρ h : am_H} {Q : am_Q}
/-- a step that moves the stack alone -/
theorem am_stk (hstep : ∀ (p : Program) (l : Launch) (e : Env) (R : Room) (s : State) (m : MethodId) (args : Array Value) (below : List Frame) (meth : Method) (c : Code) (H : Heap) (locs : List Loc) (cells slots : Nat) (Z : State → Prop) (lc : Array Slot) (ad : Int → Nat),
      p.tables.exec = Jvm.exec → c.code = M.2.1 → s.vm.findClass M.1.cls = some m.cls → (∀ w, am_T w → w.before args s = true) → (∀ v ∈ st, am_okV (ρ 0 0) v) → (∀ v, some v ∈ ls → am_okV (ρ 0 0) v) → lv_has lc M.2.2.1 (am_lv ad 0 ls) →
      W p l e R s m args below meth c H locs cells slots Z (F0 m pc' lc (st'.map (am_c ad))) → W p l e R s m args below meth c H locs cells slots Z (F0 m pc lc (st.map (am_c ad))))
    (hok : (∀ v ∈ st, am_okV (ρ 0 0) v) → (∀ v, some v ∈ ls → am_okV (ρ 0 0) v) → ∀ v ∈ st', am_okV (ρ 0 0) v) (k : am_WP M bc bs pc' ls st' ρ h Q) : am_WP M bc bs pc ls st ρ h Q := by
  intro p l e R s m args below meth c Z D cI cS A n0 ad0 C ad H locs cells slots lc rl os ol hl hc hs
  exact hstep p l e R s m args below meth c H locs cells slots Z lc ad C.1.1.1 C.1.1.2.1 C.1.1.2.2.2 C.1.2.1 os ol hl (k p l e R s m args below meth c Z D cI cS A n0 ad0 C ad H locs cells slots lc rl (hok os ol) ol hl hc hs)
theorem am_ok1 {n : Int} {a : am_V} {t : List am_V} (ha : am_okV n a) (h : ∀ v ∈ t, am_okV n v) : ∀ v ∈ a :: t, am_okV n v := fun v hv => by
  rcases List.mem_cons.mp hv with rfl | hv
  · exact ha
  · exact h v hv
theorem am_okI1 {n x : Int} {t : List am_V} (hx : am_okI x) (h : ∀ v ∈ t, am_okV n v) : ∀ v ∈ am_I x :: t, am_okV n v := am_ok1 (a := am_I x) hx h
theorem am_okL1 {n x : Int} {t : List am_V} (hx : am_okJ x) (h : ∀ v ∈ t, am_okV n v) : ∀ v ∈ am_L x :: t, am_okV n v := am_ok1 (a := am_L x) hx h
theorem am_okR1 {n x : Int} {t : List am_V} (hx : x < n) (h : ∀ v ∈ t, am_okV n v) : ∀ v ∈ am_R x :: t, am_okV n v := am_ok1 (a := am_R x) hx h
theorem am_okt {n : Int} {a : am_V} {t : List am_V} (h : ∀ v ∈ a :: t, am_okV n v) : ∀ v ∈ t, am_okV n v := fun v hv => h v (List.mem_cons_of_mem _ hv)
theorem am_okh {n : Int} {a : am_V} {t : List am_V} (h : ∀ v ∈ a :: t, am_okV n v) : am_okV n a := h a List.mem_cons_self
theorem am_iconst {n : Int} (hd : decode M.2.1 pc = .ok (.iconst n, 1)) (hp : pc + 1 = pc') (hn : (decide (-2147483648 ≤ n) && decide (n < 2147483648)) = true) (k : am_WP M bc bs pc' ls (am_I n :: st) ρ h Q) : am_WP M bc bs pc ls st ρ h Q := by
  subst hp
  refine am_stk (fun p l e R s m args below meth c H locs cells slots Z lc ad hx hb _ _ os ol hl k => lv_iconst hx hb hd rfl k) (fun os _ => am_okI1 ?_ os) k
  simpa [am_okI] using hn
theorem am_bipush {n : Int} (hd : decode M.2.1 pc = .ok (.bipush n, 2)) (hp : pc + 2 = pc') (hn : (decide (-128 ≤ n) && decide (n < 128)) = true) (hv : (Int8.ofInt n).toInt32 = Int32.ofInt n) (k : am_WP M bc bs pc' ls (am_I n :: st) ρ h Q) : am_WP M bc bs pc ls st ρ h Q := by
  subst hp
  refine am_stk (fun p l e R s m args below meth c H locs cells slots Z lc ad hx hb _ _ os ol hl k => lv_bipush hx hb hd hv k) (fun os _ => am_okI1 ?_ os) k
  simp at hn
  exact ⟨by omega, by omega⟩
theorem am_sipush {n : Int} (hd : decode M.2.1 pc = .ok (.sipush n, 3)) (hp : pc + 3 = pc') (hn : (decide (-32768 ≤ n) && decide (n < 32768)) = true) (hv : (Int16.ofInt n).toInt32 = Int32.ofInt n) (k : am_WP M bc bs pc' ls (am_I n :: st) ρ h Q) : am_WP M bc bs pc ls st ρ h Q := by
  subst hp
  refine am_stk (fun p l e R s m args below meth c H locs cells slots Z lc ad hx hb _ _ os ol hl k => lv_sipush hx hb hd hv k) (fun os _ => am_okI1 ?_ os) k
  simp at hn
  exact ⟨by omega, by omega⟩
theorem am_lconst0 (hd : decode M.2.1 pc = .ok (.lconst 0, 1)) (hp : pc + 1 = pc') (k : am_WP M bc bs pc' ls (am_L 0 :: st) ρ h Q) : am_WP M bc bs pc ls st ρ h Q := by
  subst hp
  exact am_stk (fun p l e R s m args below meth c H locs cells slots Z lc ad hx hb _ _ os ol hl k => lv_lconst hx hb hd rfl k) (fun os _ => am_okL1 ⟨by decide, by decide⟩ os) k
theorem am_lconst1 (hd : decode M.2.1 pc = .ok (.lconst 1, 1)) (hp : pc + 1 = pc') (k : am_WP M bc bs pc' ls (am_L 1 :: st) ρ h Q) : am_WP M bc bs pc ls st ρ h Q := by
  subst hp
  exact am_stk (fun p l e R s m args below meth c H locs cells slots Z lc ad hx hb _ _ os ol hl k => lv_lconst hx hb hd rfl k) (fun os _ => am_okL1 ⟨by decide, by decide⟩ os) k
theorem am_ldcw {x : Int} {idx : Nat} {v : Int32} (hd : decode M.2.1 pc = .ok (.ldc_w idx, 3)) (hp : pc + 3 = pc') (hk : am_T (.constant M.1.cls idx v)) (hv : v = Int32.ofInt x) (hn : (decide (-2147483648 ≤ x) && decide (x < 2147483648)) = true) (k : am_WP M bc bs pc' ls (am_I x :: st) ρ h Q) : am_WP M bc bs pc ls st ρ h Q := by
  subst hp
  subst hv
  refine am_stk (fun p l e R s m args below meth c H locs cells slots Z lc ad hx hb ho ht os ol hl k => lv_ldcw hx hb ho (ht _ hk) hd k) (fun os _ => am_okI1 ?_ os) k
  simpa [am_okI] using hn
theorem am_ldc2 {x : Int} {idx : Nat} {v : Int64} (hd : decode M.2.1 pc = .ok (.ldc2_w idx, 3)) (hp : pc + 3 = pc') (hk : am_T (.constantLong M.1.cls idx v)) (hv : v = Int64.ofInt x) (hn : (decide (-9223372036854775808 ≤ x) && decide (x < 9223372036854775808)) = true) (k : am_WP M bc bs pc' ls (am_L x :: st) ρ h Q) : am_WP M bc bs pc ls st ρ h Q := by
  subst hp
  subst hv
  refine am_stk (fun p l e R s m args below meth c H locs cells slots Z lc ad hx hb ho ht os ol hl k => lv_ldc2 hx hb ho (ht _ hk) hd k) (fun os _ => am_okL1 ?_ os) k
  simpa [am_okJ] using hn
theorem am_iload_n {q : Fin 4} {i : Nat} {x : Int} (hd : decode M.2.1 pc = .ok (.iload_n q, 1)) (hp : pc + 1 = pc') (hi : (q : Nat) = i) (hl : ls[i]? = some (some (am_I x))) (k : am_WP M bc bs pc' ls (am_I x :: st) ρ h Q) : am_WP M bc bs pc ls st ρ h Q := by
  subst hp
  exact am_stk (fun p l e R s m args below meth c H locs cells slots Z lc ad hx hb _ _ os ol hv k => lv_iload_n hx hb hd hi (am_lv_at hv hl) k) (fun os ol => am_ok1 (ol _ (List.mem_of_getElem? hl)) os) k
theorem am_iload {i : Nat} {x : Int} (hd : decode M.2.1 pc = .ok (.iload i, 2)) (hp : pc + 2 = pc') (hl : ls[i]? = some (some (am_I x))) (k : am_WP M bc bs pc' ls (am_I x :: st) ρ h Q) : am_WP M bc bs pc ls st ρ h Q := by
  subst hp
  exact am_stk (fun p l e R s m args below meth c H locs cells slots Z lc ad hx hb _ _ os ol hv k => lv_iload hx hb hd (am_lv_at hv hl) k) (fun os ol => am_ok1 (ol _ (List.mem_of_getElem? hl)) os) k
theorem am_lload_n {q : Fin 4} {i : Nat} {x : Int} (hd : decode M.2.1 pc = .ok (.lload_n q, 1)) (hp : pc + 1 = pc') (hi : (q : Nat) = i) (hl : ls[i]? = some (some (am_L x))) (k : am_WP M bc bs pc' ls (am_L x :: st) ρ h Q) : am_WP M bc bs pc ls st ρ h Q := by
  subst hp
  exact am_stk (fun p l e R s m args below meth c H locs cells slots Z lc ad hx hb _ _ os ol hv k => lv_lload_n hx hb hd hi (am_lv_at hv hl) k) (fun os ol => am_ok1 (ol _ (List.mem_of_getElem? hl)) os) k
theorem am_lload {i : Nat} {x : Int} (hd : decode M.2.1 pc = .ok (.lload i, 2)) (hp : pc + 2 = pc') (hl : ls[i]? = some (some (am_L x))) (k : am_WP M bc bs pc' ls (am_L x :: st) ρ h Q) : am_WP M bc bs pc ls st ρ h Q := by
  subst hp
  exact am_stk (fun p l e R s m args below meth c H locs cells slots Z lc ad hx hb _ _ os ol hv k => lv_lload hx hb hd (am_lv_at hv hl) k) (fun os ol => am_ok1 (ol _ (List.mem_of_getElem? hl)) os) k
theorem am_aload_n {q : Fin 4} {i : Nat} {x : Int} (hd : decode M.2.1 pc = .ok (.aload_n q, 1)) (hp : pc + 1 = pc') (hi : (q : Nat) = i) (hl : ls[i]? = some (some (am_R x))) (k : am_WP M bc bs pc' ls (am_R x :: st) ρ h Q) : am_WP M bc bs pc ls st ρ h Q := by
  subst hp
  exact am_stk (fun p l e R s m args below meth c H locs cells slots Z lc ad hx hb _ _ os ol hv k => lv_aload_n hx hb hd hi (am_lv_at hv hl) k) (fun os ol => am_ok1 (ol _ (List.mem_of_getElem? hl)) os) k
theorem am_aload {i : Nat} {x : Int} (hd : decode M.2.1 pc = .ok (.aload i, 2)) (hp : pc + 2 = pc') (hl : ls[i]? = some (some (am_R x))) (k : am_WP M bc bs pc' ls (am_R x :: st) ρ h Q) : am_WP M bc bs pc ls st ρ h Q := by
  subst hp
  exact am_stk (fun p l e R s m args below meth c H locs cells slots Z lc ad hx hb _ _ os ol hv k => lv_aload hx hb hd (am_lv_at hv hl) k) (fun os ol => am_ok1 (ol _ (List.mem_of_getElem? hl)) os) k
/-! numbers -/
theorem am_iadd {a b : Int} (hd : decode M.2.1 pc = .ok (.iadd, 1)) (hp : pc + 1 = pc') (hr : am_okI (a + b)) (k : am_WP M bc bs pc' ls (am_I (a + b) :: st) ρ h Q) : am_WP M bc bs pc ls (am_I b :: am_I a :: st) ρ h Q := by
  subst hp
  refine am_stk (fun p l e R s m args below meth c H locs cells slots Z lc ad hx hb _ _ os ol hl k => lv_iadd hx hb hd ?_) (fun os _ => am_okI1 hr (am_okt (am_okt os))) k
  rw [← Int32.ofInt_add]; exact k
theorem am_iaddw {a b : Int} (hd : decode M.2.1 pc = .ok (.iadd, 1)) (hp : pc + 1 = pc') (k : am_WP M bc bs pc' ls (am_I (am_w (a + b)) :: st) ρ h Q) : am_WP M bc bs pc ls (am_I b :: am_I a :: st) ρ h Q := by
  subst hp
  refine am_stk (fun p l e R s m args below meth c H locs cells slots Z lc ad hx hb _ _ os ol hl k => lv_iadd hx hb hd ?_) (fun os _ => am_okI1 (am_w_ok _) (am_okt (am_okt os))) k
  rw [← Int32.ofInt_add, ← am_w_of]; exact k
theorem am_isub {a b : Int} (hd : decode M.2.1 pc = .ok (.isub, 1)) (hp : pc + 1 = pc') (hr : am_okI (a - b)) (k : am_WP M bc bs pc' ls (am_I (a - b) :: st) ρ h Q) : am_WP M bc bs pc ls (am_I b :: am_I a :: st) ρ h Q := by
  subst hp
  refine am_stk (fun p l e R s m args below meth c H locs cells slots Z lc ad hx hb _ _ os ol hl k => lv_isub hx hb hd ?_) (fun os _ => am_okI1 hr (am_okt (am_okt os))) k
  rw [← Int32.ofInt_sub]; exact k
theorem am_isubw {a b : Int} (hd : decode M.2.1 pc = .ok (.isub, 1)) (hp : pc + 1 = pc') (k : am_WP M bc bs pc' ls (am_I (am_w (a - b)) :: st) ρ h Q) : am_WP M bc bs pc ls (am_I b :: am_I a :: st) ρ h Q := by
  subst hp
  refine am_stk (fun p l e R s m args below meth c H locs cells slots Z lc ad hx hb _ _ os ol hl k => lv_isub hx hb hd ?_) (fun os _ => am_okI1 (am_w_ok _) (am_okt (am_okt os))) k
  rw [← Int32.ofInt_sub, ← am_w_of]; exact k
theorem am_imul {a b : Int} (hd : decode M.2.1 pc = .ok (.imul, 1)) (hp : pc + 1 = pc') (hr : am_okI (a * b)) (k : am_WP M bc bs pc' ls (am_I (a * b) :: st) ρ h Q) : am_WP M bc bs pc ls (am_I b :: am_I a :: st) ρ h Q := by
  subst hp
  refine am_stk (fun p l e R s m args below meth c H locs cells slots Z lc ad hx hb _ _ os ol hl k => lv_imul hx hb hd ?_) (fun os _ => am_okI1 hr (am_okt (am_okt os))) k
  rw [← Int32.ofInt_mul]; exact k
theorem am_imulw {a b : Int} (hd : decode M.2.1 pc = .ok (.imul, 1)) (hp : pc + 1 = pc') (k : am_WP M bc bs pc' ls (am_I (am_w (a * b)) :: st) ρ h Q) : am_WP M bc bs pc ls (am_I b :: am_I a :: st) ρ h Q := by
  subst hp
  refine am_stk (fun p l e R s m args below meth c H locs cells slots Z lc ad hx hb _ _ os ol hl k => lv_imul hx hb hd ?_) (fun os _ => am_okI1 (am_w_ok _) (am_okt (am_okt os))) k
  rw [← Int32.ofInt_mul, ← am_w_of]; exact k
theorem am_ineg {a : Int} (hd : decode M.2.1 pc = .ok (.ineg, 1)) (hp : pc + 1 = pc') (hr : am_okI (-a)) (k : am_WP M bc bs pc' ls (am_I (-a) :: st) ρ h Q) : am_WP M bc bs pc ls (am_I a :: st) ρ h Q := by
  subst hp
  refine am_stk (fun p l e R s m args below meth c H locs cells slots Z lc ad hx hb _ _ os ol hl k => lv_ineg hx hb hd ?_) (fun os _ => am_okI1 hr (am_okt os)) k
  rw [← Int32.ofInt_neg]; exact k
end AMR
end
section
/-! more numbers, branches, locals -/
theorem am_divE {a b : Int} (ha : am_okI a) (hb : am_okI b) (h0 : 0 ≤ a) (h1 : 0 < b) : Int32.ofInt a / Int32.ofInt b = Int32.ofInt (a / b) := by
  apply Int32.toInt_inj.mp
  rw [Int32.toInt_div, am_toInt ha, am_toInt hb, Int.tdiv_eq_ediv_of_nonneg h0, Int32.toInt_ofInt]
theorem am_divL {a b : Int} (ha : am_okJ a) (hb : am_okJ b) (h0 : 0 ≤ a) (h1 : 0 < b) : Int64.ofInt a / Int64.ofInt b = Int64.ofInt (a / b) := by
  apply Int64.toInt_inj.mp
  rw [Int64.toInt_div, am_toIntJ ha, am_toIntJ hb, Int.tdiv_eq_ediv_of_nonneg h0, Int64.toInt_ofInt]
theorem am_ne0 {b : Int} (hb : am_okI b) (h1 : 0 < b) : ¬ Int32.ofInt b = 0 := by
  rw [← am_0, am_inj hb am_ok0]; omega
theorem am_okJ0 : am_okJ 0 := ⟨by decide, by decide⟩
theorem am_0J : Int64.ofInt 0 = 0 := by decide
theorem am_ne0J {b : Int} (hb : am_okJ b) (h1 : 0 < b) : ¬ Int64.ofInt b = 0 := by
  rw [← am_0J, am_injJ hb am_okJ0]; omega
theorem am_okdiv {a b : Int} (ha : am_okI a) (h0 : 0 ≤ a) (h1 : 0 < b) : am_okI (a / b) := ⟨by have := Int.ediv_nonneg h0 (Int.le_of_lt h1); omega, by have := Int.ediv_le_self b h0; have := ha.2; omega⟩
theorem am_okdivJ {a b : Int} (ha : am_okJ a) (h0 : 0 ≤ a) (h1 : 0 < b) : am_okJ (a / b) := ⟨by have := Int.ediv_nonneg h0 (Int.le_of_lt h1); omega, by have := Int.ediv_le_self b h0; have := ha.2; omega⟩
theorem am_okmod {a b : Int} (hb : am_okI b) (h1 : 0 < b) : am_okI (a % b) := ⟨by have := Int.emod_nonneg a (by omega : b ≠ 0); omega, by have := Int.emod_lt_of_pos a h1; have := hb.2; omega⟩
theorem am_okmodJ {a b : Int} (hb : am_okJ b) (h1 : 0 < b) : am_okJ (a % b) := ⟨by have := Int.emod_nonneg a (by omega : b ≠ 0); omega, by have := Int.emod_lt_of_pos a h1; have := hb.2; omega⟩
theorem am_shlE : ∀ n : Fin 31, Int32.ofInt 1 <<< (Int32.ofInt (n : Nat) &&& 31) = Int32.ofInt ((2 ^ (n : Nat) : Nat) : Int) := by decide +kernel
theorem am_orE : ∀ a b : Fin 64, Int32.ofInt (a : Nat) ||| Int32.ofInt (b : Nat) = Int32.ofInt (((a : Nat) ||| (b : Nat) : Nat) : Int) := by decide +kernel
theorem am_orb : ∀ a b : Fin 64, ((a : Nat) ||| (b : Nat)) < 64 := by decide +kernel
theorem am_and1 : ∀ a : Fin 64, Int32.ofInt (a : Nat) &&& Int32.ofInt 1 = Int32.ofInt ((a : Nat) % 2 : Nat) := by decide +kernel
theorem am_shr1 : ∀ a : Fin 64, Int32.ofInt (a : Nat) >>> (Int32.ofInt 1 &&& 31) = Int32.ofInt ((a : Nat) / 2 : Nat) := by decide +kernel
section AMR
variable {M : am_M} {bc bs pc pc' : Nat} {ls ls' : List (Option am_V)} {st st' : List am_V} {ρ h : am_H} {Q : am_Q}
theorem am_idiv {a b : Int} (hd : decode M.2.1 pc = .ok (.idiv, 1)) (hp : pc + 1 = pc') (h0 : 0 ≤ a) (h1 : 0 < b) (k : am_WP M bc bs pc' ls (am_I (a / b) :: st) ρ h Q) : am_WP M bc bs pc ls (am_I b :: am_I a :: st) ρ h Q := by
  subst hp
  refine am_stk (fun p l e R s m args below meth c H locs cells slots Z lc ad hx hb _ _ os ol hl k => lv_idiv hx hb hd (am_ne0 (am_okh os) h1) ?_) (fun os _ => am_okI1 (am_okdiv (am_okh (am_okt os)) h0 h1) (am_okt (am_okt os))) k
  rw [am_divE (am_okh (am_okt os)) (am_okh os) h0 h1]; exact k
theorem am_irem {a b : Int} (hd : decode M.2.1 pc = .ok (.irem, 1)) (hp : pc + 1 = pc') (h0 : 0 ≤ a) (h1 : 0 < b) (k : am_WP M bc bs pc' ls (am_I (a % b) :: st) ρ h Q) : am_WP M bc bs pc ls (am_I b :: am_I a :: st) ρ h Q := by
  subst hp
  refine am_stk (fun p l e R s m args below meth c H locs cells slots Z lc ad hx hb _ _ os ol hl k => lv_irem hx hb hd (am_ne0 (am_okh os) h1) ?_) (fun os _ => am_okI1 (am_okmod (am_okh os) h1) (am_okt (am_okt os))) k
  rw [am_divE (am_okh (am_okt os)) (am_okh os) h0 h1, ← Int32.ofInt_mul, ← Int32.ofInt_sub, show a - a / b * b = a % b by rw [Int.emod_def, Int.mul_comm]]; exact k
theorem am_ldiv {a b : Int} (hd : decode M.2.1 pc = .ok (.ldiv, 1)) (hp : pc + 1 = pc') (h0 : 0 ≤ a) (h1 : 0 < b) (k : am_WP M bc bs pc' ls (am_L (a / b) :: st) ρ h Q) : am_WP M bc bs pc ls (am_L b :: am_L a :: st) ρ h Q := by
  subst hp
  refine am_stk (fun p l e R s m args below meth c H locs cells slots Z lc ad hx hb _ _ os ol hl k => lv_ldiv hx hb hd (am_ne0J (am_okh os) h1) ?_) (fun os _ => am_okL1 (am_okdivJ (am_okh (am_okt os)) h0 h1) (am_okt (am_okt os))) k
  rw [am_divL (am_okh (am_okt os)) (am_okh os) h0 h1]; exact k
theorem am_lrem {a b : Int} (hd : decode M.2.1 pc = .ok (.lrem, 1)) (hp : pc + 1 = pc') (h0 : 0 ≤ a) (h1 : 0 < b) (k : am_WP M bc bs pc' ls (am_L (a % b) :: st) ρ h Q) : am_WP M bc bs pc ls (am_L b :: am_L a :: st) ρ h Q := by
  subst hp
  refine am_stk (fun p l e R s m args below meth c H locs cells slots Z lc ad hx hb _ _ os ol hl k => lv_lrem hx hb hd (am_ne0J (am_okh os) h1) ?_) (fun os _ => am_okL1 (am_okmodJ (am_okh os) h1) (am_okt (am_okt os))) k
  rw [am_divL (am_okh (am_okt os)) (am_okh os) h0 h1, ← Int64.ofInt_mul, ← Int64.ofInt_sub, show a - a / b * b = a % b by rw [Int.emod_def, Int.mul_comm]]; exact k
theorem am_ladd {a b : Int} (hd : decode M.2.1 pc = .ok (.ladd, 1)) (hp : pc + 1 = pc') (hr : am_okJ (a + b)) (k : am_WP M bc bs pc' ls (am_L (a + b) :: st) ρ h Q) : am_WP M bc bs pc ls (am_L b :: am_L a :: st) ρ h Q := by
  subst hp
  refine am_stk (fun p l e R s m args below meth c H locs cells slots Z lc ad hx hb _ _ os ol hl k => lv_ladd hx hb hd ?_) (fun os _ => am_okL1 hr (am_okt (am_okt os))) k
  rw [← Int64.ofInt_add]; exact k
theorem am_lsub {a b : Int} (hd : decode M.2.1 pc = .ok (.lsub, 1)) (hp : pc + 1 = pc') (hr : am_okJ (a - b)) (k : am_WP M bc bs pc' ls (am_L (a - b) :: st) ρ h Q) : am_WP M bc bs pc ls (am_L b :: am_L a :: st) ρ h Q := by
  subst hp
  refine am_stk (fun p l e R s m args below meth c H locs cells slots Z lc ad hx hb _ _ os ol hl k => lv_lsub hx hb hd ?_) (fun os _ => am_okL1 hr (am_okt (am_okt os))) k
  rw [← Int64.ofInt_sub]; exact k
theorem am_lmul {a b : Int} (hd : decode M.2.1 pc = .ok (.lmul, 1)) (hp : pc + 1 = pc') (hr : am_okJ (a * b)) (k : am_WP M bc bs pc' ls (am_L (a * b) :: st) ρ h Q) : am_WP M bc bs pc ls (am_L b :: am_L a :: st) ρ h Q := by
  subst hp
  refine am_stk (fun p l e R s m args below meth c H locs cells slots Z lc ad hx hb _ _ os ol hl k => lv_lmul hx hb hd ?_) (fun os _ => am_okL1 hr (am_okt (am_okt os))) k
  rw [← Int64.ofInt_mul]; exact k
theorem am_land {a b : Int} (hd : decode M.2.1 pc = .ok (.land, 1)) (hp : pc + 1 = pc') (k : am_WP M bc bs pc' ls (am_L (Int64.ofInt a &&& Int64.ofInt b).toInt :: st) ρ h Q) : am_WP M bc bs pc ls (am_L b :: am_L a :: st) ρ h Q := by
  subst hp
  refine am_stk (fun p l e R s m args below meth c H locs cells slots Z lc ad hx hb _ _ os ol hl k => lv_land hx hb hd ?_) (fun os _ => am_okL1 (am_okwJ _) (am_okt (am_okt os))) k
  rw [← Int64.ofInt_toInt (Int64.ofInt a &&& Int64.ofInt b)]; exact k
theorem am_lor {a b : Int} (hd : decode M.2.1 pc = .ok (.lor, 1)) (hp : pc + 1 = pc') (k : am_WP M bc bs pc' ls (am_L (Int64.ofInt a ||| Int64.ofInt b).toInt :: st) ρ h Q) : am_WP M bc bs pc ls (am_L b :: am_L a :: st) ρ h Q := by
  subst hp
  refine am_stk (fun p l e R s m args below meth c H locs cells slots Z lc ad hx hb _ _ os ol hl k => lv_lor hx hb hd ?_) (fun os _ => am_okL1 (am_okwJ _) (am_okt (am_okt os))) k
  rw [← Int64.ofInt_toInt (Int64.ofInt a ||| Int64.ofInt b)]; exact k
theorem am_iand {a b : Int} (hd : decode M.2.1 pc = .ok (.iand, 1)) (hp : pc + 1 = pc') (k : am_WP M bc bs pc' ls (am_I (Int32.ofInt a &&& Int32.ofInt b).toInt :: st) ρ h Q) : am_WP M bc bs pc ls (am_I b :: am_I a :: st) ρ h Q := by
  subst hp
  refine am_stk (fun p l e R s m args below meth c H locs cells slots Z lc ad hx hb _ _ os ol hl k => lv_iand hx hb hd ?_) (fun os _ => am_okI1 (am_okw _) (am_okt (am_okt os))) k
  rw [← Int32.ofInt_toInt (Int32.ofInt a &&& Int32.ofInt b)]; exact k
theorem am_iand1 {a : Int} (hd : decode M.2.1 pc = .ok (.iand, 1)) (hp : pc + 1 = pc') (h0 : 0 ≤ a) (h1 : a < 64) (k : am_WP M bc bs pc' ls (am_I (a % 2) :: st) ρ h Q) : am_WP M bc bs pc ls (am_I 1 :: am_I a :: st) ρ h Q := by
  refine am_iand hd hp ?_
  obtain ⟨n, rfl⟩ := Int.eq_ofNat_of_zero_le h0
  have e := am_and1 ⟨n, by omega⟩
  rw [show (Int32.ofInt (n : Int) &&& Int32.ofInt 1).toInt = (n : Int) % 2 from ?_]
  · exact k
  · show (Int32.ofInt ((n : Nat) : Int) &&& Int32.ofInt 1).toInt = _
    rw [e]
    show (Int32.ofInt ((n % 2 : Nat) : Int)).toInt = _
    rw [am_toInt ⟨by omega, by omega⟩]; omega
theorem am_ior {a b : Int} (hd : decode M.2.1 pc = .ok (.ior, 1)) (hp : pc + 1 = pc') (h0 : 0 ≤ a ∧ a < 64) (h1 : 0 ≤ b ∧ b < 64) (k : am_WP M bc bs pc' ls (am_I ((a.toNat ||| b.toNat : Nat) : Int) :: st) ρ h Q) : am_WP M bc bs pc ls (am_I b :: am_I a :: st) ρ h Q := by
  subst hp
  have hlt := am_orb ⟨a.toNat, by omega⟩ ⟨b.toNat, by omega⟩
  have e9 := am_orE ⟨a.toNat, by omega⟩ ⟨b.toNat, by omega⟩
  dsimp only at hlt e9
  rw [Int.toNat_of_nonneg h0.1, Int.toNat_of_nonneg h1.1] at e9
  refine am_stk (fun p l e R s m args below meth c H locs cells slots Z lc ad hx hb _ _ os ol hl k => lv_ior hx hb hd ?_) (fun os _ => am_okI1 ⟨by omega, by omega⟩ (am_okt (am_okt os))) k
  rw [e9]; exact k
theorem am_ishr1 {a : Int} (hd : decode M.2.1 pc = .ok (.ishr, 1)) (hp : pc + 1 = pc') (h0 : 0 ≤ a) (h1 : a < 64) (k : am_WP M bc bs pc' ls (am_I (a / 2) :: st) ρ h Q) : am_WP M bc bs pc ls (am_I 1 :: am_I a :: st) ρ h Q := by
  subst hp
  obtain ⟨n, rfl⟩ := Int.eq_ofNat_of_zero_le h0
  have e9 := am_shr1 ⟨n, by omega⟩
  dsimp only at e9
  refine am_stk (fun p l e R s m args below meth c H locs cells slots Z lc ad hx hb _ _ os ol hl k => lv_ishr hx hb hd ?_) (fun os _ => am_okI1 ⟨by omega, by omega⟩ (am_okt (am_okt os))) k
  rw [e9]; exact k
theorem am_ishl1 {b : Int} (hd : decode M.2.1 pc = .ok (.ishl, 1)) (hp : pc + 1 = pc') (h0 : 0 ≤ b) (h1 : b < 31) (k : am_WP M bc bs pc' ls (am_I ((2 ^ b.toNat : Nat) : Int) :: st) ρ h Q) : am_WP M bc bs pc ls (am_I b :: am_I 1 :: st) ρ h Q := by
  subst hp
  obtain ⟨n, rfl⟩ := Int.eq_ofNat_of_zero_le h0
  have e9 := am_shlE ⟨n, by omega⟩
  dsimp only at e9
  have hlt : 2 ^ n < 2 ^ 31 := Nat.pow_lt_pow_right (by decide) (by omega)
  refine am_stk (fun p l e R s m args below meth c H locs cells slots Z lc ad hx hb _ _ os ol hl k => lv_ishl hx hb hd ?_) (fun os _ => am_okI1 ⟨by rw [Int.toNat_natCast]; exact Int.le_trans (by decide) (Int.natCast_nonneg _), by rw [Int.toNat_natCast]; exact Int.ofNat_lt.mpr hlt⟩ (am_okt (am_okt os))) k
  rw [e9]; exact k
theorem am_lshl {a b : Int} (hd : decode M.2.1 pc = .ok (.lshl, 1)) (hp : pc + 1 = pc') (k : am_WP M bc bs pc' ls (am_L (Int64.ofInt a <<< ((Int32.ofInt b).toInt64 &&& 63)).toInt :: st) ρ h Q) : am_WP M bc bs pc ls (am_I b :: am_L a :: st) ρ h Q := by
  subst hp
  exact am_stk (fun p l e R s m args below meth c H locs cells slots Z lc ad hx hb _ _ os ol hl k => lv_lshl hx hb hd (Int64.ofInt_toInt _).symm k) (fun os _ => am_okL1 (am_okwJ _) (am_okt (am_okt os))) k
theorem am_i2l {a : Int} (hd : decode M.2.1 pc = .ok (.i2l, 1)) (hp : pc + 1 = pc') (k : am_WP M bc bs pc' ls (am_L a :: st) ρ h Q) : am_WP M bc bs pc ls (am_I a :: st) ρ h Q := by
  subst hp
  refine am_stk (fun p l e R s m args below meth c H locs cells slots Z lc ad hx hb _ _ os ol hl k => lv_i2l hx hb hd ?_ k) (fun os _ => am_okL1 ⟨by have := (am_okh os).1; omega, by have := (am_okh os).2; omega⟩ (am_okt os)) k
  have ha : am_okI a := am_okh os
  exact Int32.toInt64_ofInt (by have := ha.1; rw [show Int32.minValue.toInt = -2147483648 from rfl]; omega) (by have := ha.2; rw [show Int32.maxValue.toInt = 2147483647 from rfl]; omega)
def am_b8 (a : Int) : Int := (Int32.ofInt a).toInt8.toInt32.toInt
def am_s16 (a : Int) : Int := (Int32.ofInt a).toInt16.toInt32.toInt
theorem am_i2b {a : Int} (hd : decode M.2.1 pc = .ok (.i2b, 1)) (hp : pc + 1 = pc') (k : am_WP M bc bs pc' ls (am_I (am_b8 a) :: st) ρ h Q) : am_WP M bc bs pc ls (am_I a :: st) ρ h Q := by
  subst hp
  exact am_stk (fun p l e R s m args below meth c H locs cells slots Z lc ad hx hb _ _ os ol hl k => lv_i2b hx hb hd (Int32.ofInt_toInt _).symm k) (fun os _ => am_okI1 (am_okw _) (am_okt os)) k
theorem am_i2s {a : Int} (hd : decode M.2.1 pc = .ok (.i2s, 1)) (hp : pc + 1 = pc') (k : am_WP M bc bs pc' ls (am_I (am_s16 a) :: st) ρ h Q) : am_WP M bc bs pc ls (am_I a :: st) ρ h Q := by
  subst hp
  exact am_stk (fun p l e R s m args below meth c H locs cells slots Z lc ad hx hb _ _ os ol hl k => lv_i2s hx hb hd (Int32.ofInt_toInt _).symm k) (fun os _ => am_okI1 (am_okw _) (am_okt os)) k
theorem am_dupI {a : Int} (hd : decode M.2.1 pc = .ok (.dup, 1)) (hp : pc + 1 = pc') (k : am_WP M bc bs pc' ls (am_I a :: am_I a :: st) ρ h Q) : am_WP M bc bs pc ls (am_I a :: st) ρ h Q := by
  subst hp
  exact am_stk (fun p l e R s m args below meth c H locs cells slots Z lc ad hx hb _ _ os ol hl k => lv_dup hx hb hd rfl k) (fun os _ => am_ok1 (am_okh os) os) k
theorem am_dupR {a : Int} (hd : decode M.2.1 pc = .ok (.dup, 1)) (hp : pc + 1 = pc') (k : am_WP M bc bs pc' ls (am_R a :: am_R a :: st) ρ h Q) : am_WP M bc bs pc ls (am_R a :: st) ρ h Q := by
  subst hp
  exact am_stk (fun p l e R s m args below meth c H locs cells slots Z lc ad hx hb _ _ os ol hl k => lv_dup hx hb hd rfl k) (fun os _ => am_ok1 (am_okh os) os) k
theorem am_dup2 {a b : Int} (hd : decode M.2.1 pc = .ok (.dup2, 1)) (hp : pc + 1 = pc') (k : am_WP M bc bs pc' ls (am_I b :: am_R a :: am_I b :: am_R a :: st) ρ h Q) : am_WP M bc bs pc ls (am_I b :: am_R a :: st) ρ h Q := by
  subst hp
  exact am_stk (fun p l e R s m args below meth c H locs cells slots Z lc ad hx hb _ _ os ol hl k => lv_dup2_11 hx hb hd rfl rfl k) (fun os _ => am_ok1 (am_okh os) (am_ok1 (am_okh (am_okt os)) os)) k
theorem am_goto {off : Int} (hd : decode M.2.1 pc = .ok (.goto off, 3)) (ht : (pc : Int) + off = (pc' : Int)) (k : am_WP M bc bs pc' ls st ρ h Q) : am_WP M bc bs pc ls st ρ h Q :=
  am_stk (fun p l e R s m args below meth c H locs cells slots Z lc ad hx hb _ _ os ol hl k => lv_goto hx hb hd ht k) (fun os _ => os) k
end AMR
end
section
section AMR
variable {M : am_M} {bc bs pc pc' tgt : Nat} {ls ls' : List (Option am_V)} {st st' : List am_V} {ρ h : am_H} {Q : am_Q}
/-- a branch -/
theorem am_br {t : Prop} (hstep : ∀ (p : Program) (l : Launch) (e : Env) (R : Room) (s : State) (m : MethodId) (args : Array Value) (below : List Frame) (meth : Method) (c : Code) (H : Heap) (locs : List Loc) (cells slots : Nat) (Z : State → Prop) (lc : Array Slot) (ad : Int → Nat),
      p.tables.exec = Jvm.exec → c.code = M.2.1 → (∀ v ∈ st, am_okV (ρ 0 0) v) →
      (t → W p l e R s m args below meth c H locs cells slots Z (F0 m tgt lc (st'.map (am_c ad)))) → (¬ t → W p l e R s m args below meth c H locs cells slots Z (F0 m pc' lc (st'.map (am_c ad)))) → W p l e R s m args below meth c H locs cells slots Z (F0 m pc lc (st.map (am_c ad))))
    (hok : (∀ v ∈ st, am_okV (ρ 0 0) v) → ∀ v ∈ st', am_okV (ρ 0 0) v) (k1 : t → am_WP M bc bs tgt ls st' ρ h Q) (k2 : ¬ t → am_WP M bc bs pc' ls st' ρ h Q) : am_WP M bc bs pc ls st ρ h Q := by
  intro p l e R s m args below meth c Z D cI cS A n0 ad0 C ad H locs cells slots lc rl os ol hl hc hs
  exact hstep p l e R s m args below meth c H locs cells slots Z lc ad C.1.1.1 C.1.1.2.1 os (fun q => k1 q p l e R s m args below meth c Z D cI cS A n0 ad0 C ad H locs cells slots lc rl (hok os) ol hl hc hs) (fun q => k2 q p l e R s m args below meth c Z D cI cS A n0 ad0 C ad H locs cells slots lc rl (hok os) ol hl hc hs)
theorem am_eq0 {a : Int} (ha : am_okI a) : Int32.ofInt a = 0 ↔ a = 0 := by rw [← am_0, am_inj ha am_ok0]
theorem am_lt0 {a : Int} (ha : am_okI a) : Int32.ofInt a < 0 ↔ a < 0 := by rw [← am_0, am_lt ha am_ok0]
theorem am_gt0 {a : Int} (ha : am_okI a) : 0 < Int32.ofInt a ↔ 0 < a := by rw [← am_0, am_lt am_ok0 ha]
theorem am_le0 {a : Int} (ha : am_okI a) : Int32.ofInt a ≤ 0 ↔ a ≤ 0 := by rw [← am_0, am_le ha am_ok0]
theorem am_ge0 {a : Int} (ha : am_okI a) : 0 ≤ Int32.ofInt a ↔ 0 ≤ a := by rw [← am_0, am_le am_ok0 ha]
theorem am_if_eq {a off : Int} (hd : decode M.2.1 pc = .ok (.ifCond .eq off, 3)) (ht : (pc : Int) + off = (tgt : Int)) (hp : pc + 3 = pc') (k1 : a = 0 → am_WP M bc bs tgt ls st ρ h Q) (k2 : ¬ a = 0 → am_WP M bc bs pc' ls st ρ h Q) : am_WP M bc bs pc ls (am_I a :: st) ρ h Q := by
  subst hp
  exact am_br (fun p l e R s m args below meth c H locs cells slots Z lc ad hx hb os kt kf => lv_if_eq hx hb hd ht (fun q => kt ((am_eq0 (am_okh os)).mp q)) (fun q => kf (fun z => q ((am_eq0 (am_okh os)).mpr z)))) am_okt k1 k2
theorem am_if_lt {a off : Int} (hd : decode M.2.1 pc = .ok (.ifCond .lt off, 3)) (ht : (pc : Int) + off = (tgt : Int)) (hp : pc + 3 = pc') (k1 : a < 0 → am_WP M bc bs tgt ls st ρ h Q) (k2 : ¬ a < 0 → am_WP M bc bs pc' ls st ρ h Q) : am_WP M bc bs pc ls (am_I a :: st) ρ h Q := by
  subst hp
  exact am_br (fun p l e R s m args below meth c H locs cells slots Z lc ad hx hb os kt kf => lv_if_lt hx hb hd ht (fun q => kt ((am_lt0 (am_okh os)).mp q)) (fun q => kf (fun z => q ((am_lt0 (am_okh os)).mpr z)))) am_okt k1 k2
theorem am_if_ge {a off : Int} (hd : decode M.2.1 pc = .ok (.ifCond .ge off, 3)) (ht : (pc : Int) + off = (tgt : Int)) (hp : pc + 3 = pc') (k1 : 0 ≤ a → am_WP M bc bs tgt ls st ρ h Q) (k2 : ¬ 0 ≤ a → am_WP M bc bs pc' ls st ρ h Q) : am_WP M bc bs pc ls (am_I a :: st) ρ h Q := by
  subst hp
  exact am_br (fun p l e R s m args below meth c H locs cells slots Z lc ad hx hb os kt kf => lv_if_ge hx hb hd ht (fun q => kt ((am_ge0 (am_okh os)).mp q)) (fun q => kf (fun z => q ((am_ge0 (am_okh os)).mpr z)))) am_okt k1 k2
theorem am_if_gt {a off : Int} (hd : decode M.2.1 pc = .ok (.ifCond .gt off, 3)) (ht : (pc : Int) + off = (tgt : Int)) (hp : pc + 3 = pc') (k1 : 0 < a → am_WP M bc bs tgt ls st ρ h Q) (k2 : ¬ 0 < a → am_WP M bc bs pc' ls st ρ h Q) : am_WP M bc bs pc ls (am_I a :: st) ρ h Q := by
  subst hp
  exact am_br (fun p l e R s m args below meth c H locs cells slots Z lc ad hx hb os kt kf => lv_if_gt hx hb hd ht (fun q => kt ((am_gt0 (am_okh os)).mp q)) (fun q => kf (fun z => q ((am_gt0 (am_okh os)).mpr z)))) am_okt k1 k2
theorem am_if_le {a off : Int} (hd : decode M.2.1 pc = .ok (.ifCond .le off, 3)) (ht : (pc : Int) + off = (tgt : Int)) (hp : pc + 3 = pc') (k1 : a ≤ 0 → am_WP M bc bs tgt ls st ρ h Q) (k2 : ¬ a ≤ 0 → am_WP M bc bs pc' ls st ρ h Q) : am_WP M bc bs pc ls (am_I a :: st) ρ h Q := by
  subst hp
  exact am_br (fun p l e R s m args below meth c H locs cells slots Z lc ad hx hb os kt kf => lv_if_le hx hb hd ht (fun q => kt ((am_le0 (am_okh os)).mp q)) (fun q => kf (fun z => q ((am_le0 (am_okh os)).mpr z)))) am_okt k1 k2
theorem am_if_ne {a off : Int} (hd : decode M.2.1 pc = .ok (.ifCond .ne off, 3)) (ht : (pc : Int) + off = (tgt : Int)) (hp : pc + 3 = pc') (k1 : a ≠ 0 → am_WP M bc bs tgt ls st ρ h Q) (k2 : a = 0 → am_WP M bc bs pc' ls st ρ h Q) : am_WP M bc bs pc ls (am_I a :: st) ρ h Q := by
  subst hp
  exact am_br (t := a ≠ 0) (fun p l e R s m args below meth c H locs cells slots Z lc ad hx hb os kt kf => lv_if_ne hx hb hd ht (fun q => kt (fun z => q ((am_eq0 (am_okh os)).mpr z))) (fun q => kf (fun z => z ((am_eq0 (am_okh os)).mp q)))) am_okt k1 (fun q => k2 (Decidable.not_not.mp q))
theorem am_icmp_eq {a b off : Int} (hd : decode M.2.1 pc = .ok (.if_icmp .eq off, 3)) (ht : (pc : Int) + off = (tgt : Int)) (hp : pc + 3 = pc') (k1 : a = b → am_WP M bc bs tgt ls st ρ h Q) (k2 : ¬ a = b → am_WP M bc bs pc' ls st ρ h Q) : am_WP M bc bs pc ls (am_I b :: am_I a :: st) ρ h Q := by
  subst hp
  exact am_br (fun p l e R s m args below meth c H locs cells slots Z lc ad hx hb os kt kf => lv_icmp_eq hx hb hd ht (fun q => kt ((am_inj (am_okh (am_okt os)) (am_okh os)).mp q)) (fun q => kf (fun z => q ((am_inj (am_okh (am_okt os)) (am_okh os)).mpr z)))) (fun os => am_okt (am_okt os)) k1 k2
theorem am_icmp_lt {a b off : Int} (hd : decode M.2.1 pc = .ok (.if_icmp .lt off, 3)) (ht : (pc : Int) + off = (tgt : Int)) (hp : pc + 3 = pc') (k1 : a < b → am_WP M bc bs tgt ls st ρ h Q) (k2 : ¬ a < b → am_WP M bc bs pc' ls st ρ h Q) : am_WP M bc bs pc ls (am_I b :: am_I a :: st) ρ h Q := by
  subst hp
  exact am_br (fun p l e R s m args below meth c H locs cells slots Z lc ad hx hb os kt kf => lv_icmp_lt hx hb hd ht (fun q => kt ((am_lt (am_okh (am_okt os)) (am_okh os)).mp q)) (fun q => kf (fun z => q ((am_lt (am_okh (am_okt os)) (am_okh os)).mpr z)))) (fun os => am_okt (am_okt os)) k1 k2
theorem am_icmp_ge {a b off : Int} (hd : decode M.2.1 pc = .ok (.if_icmp .ge off, 3)) (ht : (pc : Int) + off = (tgt : Int)) (hp : pc + 3 = pc') (k1 : b ≤ a → am_WP M bc bs tgt ls st ρ h Q) (k2 : ¬ b ≤ a → am_WP M bc bs pc' ls st ρ h Q) : am_WP M bc bs pc ls (am_I b :: am_I a :: st) ρ h Q := by
  subst hp
  exact am_br (fun p l e R s m args below meth c H locs cells slots Z lc ad hx hb os kt kf => lv_icmp_ge hx hb hd ht (fun q => kt ((am_le (am_okh os) (am_okh (am_okt os))).mp q)) (fun q => kf (fun z => q ((am_le (am_okh os) (am_okh (am_okt os))).mpr z)))) (fun os => am_okt (am_okt os)) k1 k2
theorem am_icmp_gt {a b off : Int} (hd : decode M.2.1 pc = .ok (.if_icmp .gt off, 3)) (ht : (pc : Int) + off = (tgt : Int)) (hp : pc + 3 = pc') (k1 : b < a → am_WP M bc bs tgt ls st ρ h Q) (k2 : ¬ b < a → am_WP M bc bs pc' ls st ρ h Q) : am_WP M bc bs pc ls (am_I b :: am_I a :: st) ρ h Q := by
  subst hp
  exact am_br (fun p l e R s m args below meth c H locs cells slots Z lc ad hx hb os kt kf => lv_icmp_gt hx hb hd ht (fun q => kt ((am_lt (am_okh os) (am_okh (am_okt os))).mp q)) (fun q => kf (fun z => q ((am_lt (am_okh os) (am_okh (am_okt os))).mpr z)))) (fun os => am_okt (am_okt os)) k1 k2
theorem am_icmp_le {a b off : Int} (hd : decode M.2.1 pc = .ok (.if_icmp .le off, 3)) (ht : (pc : Int) + off = (tgt : Int)) (hp : pc + 3 = pc') (k1 : a ≤ b → am_WP M bc bs tgt ls st ρ h Q) (k2 : ¬ a ≤ b → am_WP M bc bs pc' ls st ρ h Q) : am_WP M bc bs pc ls (am_I b :: am_I a :: st) ρ h Q := by
  subst hp
  exact am_br (fun p l e R s m args below meth c H locs cells slots Z lc ad hx hb os kt kf => lv_icmp_le hx hb hd ht (fun q => kt ((am_le (am_okh (am_okt os)) (am_okh os)).mp q)) (fun q => kf (fun z => q ((am_le (am_okh (am_okt os)) (am_okh os)).mpr z)))) (fun os => am_okt (am_okt os)) k1 k2
theorem am_icmp_ne {a b off : Int} (hd : decode M.2.1 pc = .ok (.if_icmp .ne off, 3)) (ht : (pc : Int) + off = (tgt : Int)) (hp : pc + 3 = pc') (k1 : a ≠ b → am_WP M bc bs tgt ls st ρ h Q) (k2 : a = b → am_WP M bc bs pc' ls st ρ h Q) : am_WP M bc bs pc ls (am_I b :: am_I a :: st) ρ h Q := by
  subst hp
  exact am_br (t := a ≠ b) (fun p l e R s m args below meth c H locs cells slots Z lc ad hx hb os kt kf => lv_icmp_ne hx hb hd ht (fun q => kt (fun z => q ((am_inj (am_okh (am_okt os)) (am_okh os)).mpr z))) (fun q => kf (fun z => z ((am_inj (am_okh (am_okt os)) (am_okh os)).mp q)))) (fun os => am_okt (am_okt os)) k1 (fun q => k2 (Decidable.not_not.mp q))
theorem am_leJ {x y : Int} (hx : am_okJ x) (hy : am_okJ y) : Int64.ofInt x ≤ Int64.ofInt y ↔ x ≤ y := by
  rw [Int64.le_iff_toInt_le, am_toIntJ hx, am_toIntJ hy]
theorem am_lcmp_eq {a b off : Int} {pc1 : Nat} (hd0 : decode M.2.1 pc = .ok (.lcmp, 1)) (hp1 : pc + 1 = pc1) (hd : decode M.2.1 pc1 = .ok (.ifCond .eq off, 3)) (ht : (pc1 : Int) + off = (tgt : Int)) (hp : pc1 + 3 = pc') (k1 : a = b → am_WP M bc bs tgt ls st ρ h Q) (k2 : ¬ a = b → am_WP M bc bs pc' ls st ρ h Q) : am_WP M bc bs pc ls (am_L b :: am_L a :: st) ρ h Q := by
  subst hp
  subst hp1
  exact am_br (fun p l e R s m args below meth c H locs cells slots Z lc ad hx hb os kt kf => W.lcmp hx hb hd0 (lv_if_eq hx hb hd ht (fun q => kt ((am_injJ (am_okh (am_okt os)) (am_okh os)).mp ((lg_cmp_eq _ _).mp q))) (fun q => kf (fun z => q ((lg_cmp_eq _ _).mpr ((am_injJ (am_okh (am_okt os)) (am_okh os)).mpr z)))))) (fun os => am_okt (am_okt os)) k1 k2
theorem am_lcmp_lt {a b off : Int} {pc1 : Nat} (hd0 : decode M.2.1 pc = .ok (.lcmp, 1)) (hp1 : pc + 1 = pc1) (hd : decode M.2.1 pc1 = .ok (.ifCond .lt off, 3)) (ht : (pc1 : Int) + off = (tgt : Int)) (hp : pc1 + 3 = pc') (k1 : a < b → am_WP M bc bs tgt ls st ρ h Q) (k2 : ¬ a < b → am_WP M bc bs pc' ls st ρ h Q) : am_WP M bc bs pc ls (am_L b :: am_L a :: st) ρ h Q := by
  subst hp
  subst hp1
  exact am_br (fun p l e R s m args below meth c H locs cells slots Z lc ad hx hb os kt kf => W.lcmp hx hb hd0 (lv_if_lt hx hb hd ht (fun q => kt ((am_ltJ (am_okh (am_okt os)) (am_okh os)).mp ((lg_cmp_lt _ _).mp q))) (fun q => kf (fun z => q ((lg_cmp_lt _ _).mpr ((am_ltJ (am_okh (am_okt os)) (am_okh os)).mpr z)))))) (fun os => am_okt (am_okt os)) k1 k2
theorem am_lcmp_ge {a b off : Int} {pc1 : Nat} (hd0 : decode M.2.1 pc = .ok (.lcmp, 1)) (hp1 : pc + 1 = pc1) (hd : decode M.2.1 pc1 = .ok (.ifCond .ge off, 3)) (ht : (pc1 : Int) + off = (tgt : Int)) (hp : pc1 + 3 = pc') (k1 : b ≤ a → am_WP M bc bs tgt ls st ρ h Q) (k2 : ¬ b ≤ a → am_WP M bc bs pc' ls st ρ h Q) : am_WP M bc bs pc ls (am_L b :: am_L a :: st) ρ h Q := by
  subst hp
  subst hp1
  exact am_br (fun p l e R s m args below meth c H locs cells slots Z lc ad hx hb os kt kf => W.lcmp hx hb hd0 (lv_if_ge hx hb hd ht (fun q => kt ((am_leJ (am_okh os) (am_okh (am_okt os))).mp ((lg_cmp_ge _ _).mp q))) (fun q => kf (fun z => q ((lg_cmp_ge _ _).mpr ((am_leJ (am_okh os) (am_okh (am_okt os))).mpr z)))))) (fun os => am_okt (am_okt os)) k1 k2
theorem am_lcmp_gt {a b off : Int} {pc1 : Nat} (hd0 : decode M.2.1 pc = .ok (.lcmp, 1)) (hp1 : pc + 1 = pc1) (hd : decode M.2.1 pc1 = .ok (.ifCond .gt off, 3)) (ht : (pc1 : Int) + off = (tgt : Int)) (hp : pc1 + 3 = pc') (k1 : b < a → am_WP M bc bs tgt ls st ρ h Q) (k2 : ¬ b < a → am_WP M bc bs pc' ls st ρ h Q) : am_WP M bc bs pc ls (am_L b :: am_L a :: st) ρ h Q := by
  subst hp
  subst hp1
  exact am_br (fun p l e R s m args below meth c H locs cells slots Z lc ad hx hb os kt kf => W.lcmp hx hb hd0 (lv_if_gt hx hb hd ht (fun q => kt ((am_ltJ (am_okh os) (am_okh (am_okt os))).mp ((lg_cmp_gt _ _).mp q))) (fun q => kf (fun z => q ((lg_cmp_gt _ _).mpr ((am_ltJ (am_okh os) (am_okh (am_okt os))).mpr z)))))) (fun os => am_okt (am_okt os)) k1 k2
theorem am_lcmp_le {a b off : Int} {pc1 : Nat} (hd0 : decode M.2.1 pc = .ok (.lcmp, 1)) (hp1 : pc + 1 = pc1) (hd : decode M.2.1 pc1 = .ok (.ifCond .le off, 3)) (ht : (pc1 : Int) + off = (tgt : Int)) (hp : pc1 + 3 = pc') (k1 : a ≤ b → am_WP M bc bs tgt ls st ρ h Q) (k2 : ¬ a ≤ b → am_WP M bc bs pc' ls st ρ h Q) : am_WP M bc bs pc ls (am_L b :: am_L a :: st) ρ h Q := by
  subst hp
  subst hp1
  exact am_br (fun p l e R s m args below meth c H locs cells slots Z lc ad hx hb os kt kf => W.lcmp hx hb hd0 (lv_if_le hx hb hd ht (fun q => kt ((am_leJ (am_okh (am_okt os)) (am_okh os)).mp ((lg_cmp_le _ _).mp q))) (fun q => kf (fun z => q ((lg_cmp_le _ _).mpr ((am_leJ (am_okh (am_okt os)) (am_okh os)).mpr z)))))) (fun os => am_okt (am_okt os)) k1 k2
theorem am_lcmp_ne {a b off : Int} {pc1 : Nat} (hd0 : decode M.2.1 pc = .ok (.lcmp, 1)) (hp1 : pc + 1 = pc1) (hd : decode M.2.1 pc1 = .ok (.ifCond .ne off, 3)) (ht : (pc1 : Int) + off = (tgt : Int)) (hp : pc1 + 3 = pc') (k1 : a ≠ b → am_WP M bc bs tgt ls st ρ h Q) (k2 : a = b → am_WP M bc bs pc' ls st ρ h Q) : am_WP M bc bs pc ls (am_L b :: am_L a :: st) ρ h Q := by
  subst hp
  subst hp1
  exact am_br (t := a ≠ b) (fun p l e R s m args below meth c H locs cells slots Z lc ad hx hb os kt kf => W.lcmp hx hb hd0 (lv_if_ne hx hb hd ht (fun q => kt (fun z => q ((lg_cmp_eq _ _).mpr ((am_injJ (am_okh (am_okt os)) (am_okh os)).mpr z)))) (fun q => kf (fun z => z ((am_injJ (am_okh (am_okt os)) (am_okh os)).mp ((lg_cmp_eq _ _).mp q)))))) (fun os => am_okt (am_okt os)) k1 (fun q => k2 (Decidable.not_not.mp q))
theorem am_tabOut {a dflt lo hi : Int} {offs : Array Int} {len : Nat} (hd : decode M.2.1 pc = .ok (.tableswitch dflt lo hi offs, len)) (ht : (pc : Int) + dflt = (pc' : Int)) (hx : a < lo ∨ hi < a) (k : am_WP M bc bs pc' ls st ρ h Q) : am_WP M bc bs pc ls (am_I a :: st) ρ h Q :=
  am_stk (fun p l e R s m args below meth c H locs cells slots Z lc ad hx9 hb _ _ os ol hl k => lv_tableOut hx9 hb hd (by rw [am_toInt (am_okh os)]; exact hx) ht k) (fun os _ => am_okt os) k
theorem am_tabIn {a dflt lo hi off : Int} {offs : Array Int} {len : Nat} (hd : decode M.2.1 pc = .ok (.tableswitch dflt lo hi offs, len)) (h1 : ¬ a < lo) (h2 : ¬ hi < a) (ho : offs[(a - lo).toNat]? = some off) (ht : (pc : Int) + off = (pc' : Int)) (k : am_WP M bc bs pc' ls st ρ h Q) : am_WP M bc bs pc ls (am_I a :: st) ρ h Q :=
  am_stk (fun p l e R s m args below meth c H locs cells slots Z lc ad hx9 hb _ _ os ol hl k => lv_tableIn hx9 hb hd (by rw [am_toInt (am_okh os)]; exact h1) (by rw [am_toInt (am_okh os)]; exact h2) (by rw [am_toInt (am_okh os)]; exact ho) ht k) (fun os _ => am_okt os) k
theorem am_look {a dflt off : Int} {ps : Array (Int × Int)} {len : Nat} (hd : decode M.2.1 pc = .ok (.lookupswitch dflt ps, len)) (hq : (ps.toList.zip (ps.toList.drop 1)).all (fun (a, next) => a.1 < next.1) = true) (ho : Op.lookupswitch.offset ps.toList dflt a = off) (ht : (pc : Int) + off = (pc' : Int)) (k : am_WP M bc bs pc' ls st ρ h Q) : am_WP M bc bs pc ls (am_I a :: st) ρ h Q :=
  am_stk (fun p l e R s m args below meth c H locs cells slots Z lc ad hx9 hb _ _ os ol hl k => lv_lookup hx9 hb hd hq (by rw [am_toInt (am_okh os)]; exact ho) ht k) (fun os _ => am_okt os) k
theorem am_olset {n : Int} {i : Nat} {v : am_V} (hv : am_okV n v) (ol : ∀ v, some v ∈ ls → am_okV n v) : ∀ w, some w ∈ ls.set i (some v) → am_okV n w := fun w hw => by
  rcases List.mem_or_eq_of_mem_set hw with h | h
  · exact ol w h
  · cases h; exact hv
theorem am_olset2 {n : Int} {i : Nat} {v : am_V} (hv : am_okV n v) (ol : ∀ v, some v ∈ ls → am_okV n v) : ∀ w, some w ∈ (ls.set i (some v)).set (i + 1) none → am_okV n w := fun w hw => by
  rcases List.mem_or_eq_of_mem_set hw with h | h
  · exact am_olset hv ol w h
  · cases h
theorem am_istore_n {q : Fin 4} {i : Nat} {x : Int} (hd : decode M.2.1 pc = .ok (.istore_n q, 1)) (hp : pc + 1 = pc') (hi : (q : Nat) = i) (hn : i < M.2.2.1) (hnl : am_nl ls i = true) (hls : ls.set i (some (am_I x)) = ls') (k : am_WP M bc bs pc' ls' st ρ h Q) : am_WP M bc bs pc ls (am_I x :: st) ρ h Q := by
  subst hp
  subst hls
  intro p l e R s m args below meth c Z D cI cS A n0 ad0 C ad H locs cells slots lc rl os ol hl hc hs
  exact lv_istore_n C.1.1.1 C.1.1.2.1 hd hi hl hn rfl (fun lc' hl' => k p l e R s m args below meth c Z D cI cS A n0 ad0 C ad H locs cells slots lc' rl (am_okt os) (am_olset (am_okh os) ol) (am_lv_store1 (v := am_I x) hl' hnl) hc hs)
theorem am_istore {i : Nat} {x : Int} (hd : decode M.2.1 pc = .ok (.istore i, 2)) (hp : pc + 2 = pc') (hn : i < M.2.2.1) (hnl : am_nl ls i = true) (hls : ls.set i (some (am_I x)) = ls') (k : am_WP M bc bs pc' ls' st ρ h Q) : am_WP M bc bs pc ls (am_I x :: st) ρ h Q := by
  subst hp
  subst hls
  intro p l e R s m args below meth c Z D cI cS A n0 ad0 C ad H locs cells slots lc rl os ol hl hc hs
  exact lv_istore C.1.1.1 C.1.1.2.1 hd hl hn rfl (fun lc' hl' => k p l e R s m args below meth c Z D cI cS A n0 ad0 C ad H locs cells slots lc' rl (am_okt os) (am_olset (am_okh os) ol) (am_lv_store1 (v := am_I x) hl' hnl) hc hs)
theorem am_lstore_n {q : Fin 4} {i : Nat} {x : Int} (hd : decode M.2.1 pc = .ok (.lstore_n q, 1)) (hp : pc + 1 = pc') (hi : (q : Nat) = i) (hn : i + 1 < M.2.2.1) (hnl : am_nl ls i = true) (hls : (ls.set i (some (am_L x))).set (i + 1) none = ls') (k : am_WP M bc bs pc' ls' st ρ h Q) : am_WP M bc bs pc ls (am_L x :: st) ρ h Q := by
  subst hp
  subst hls
  intro p l e R s m args below meth c Z D cI cS A n0 ad0 C ad H locs cells slots lc rl os ol hl hc hs
  exact lv_lstore_n C.1.1.1 C.1.1.2.1 hd hi hl hn rfl (fun lc' hl' => k p l e R s m args below meth c Z D cI cS A n0 ad0 C ad H locs cells slots lc' rl (am_okt os) (am_olset2 (am_okh os) ol) (am_lv_store2 (v := am_L x) hl' hnl) hc hs)
theorem am_lstore {i : Nat} {x : Int} (hd : decode M.2.1 pc = .ok (.lstore i, 2)) (hp : pc + 2 = pc') (hn : i + 1 < M.2.2.1) (hnl : am_nl ls i = true) (hls : (ls.set i (some (am_L x))).set (i + 1) none = ls') (k : am_WP M bc bs pc' ls' st ρ h Q) : am_WP M bc bs pc ls (am_L x :: st) ρ h Q := by
  subst hp
  subst hls
  intro p l e R s m args below meth c Z D cI cS A n0 ad0 C ad H locs cells slots lc rl os ol hl hc hs
  exact lv_lstore C.1.1.1 C.1.1.2.1 hd hl hn rfl (fun lc' hl' => k p l e R s m args below meth c Z D cI cS A n0 ad0 C ad H locs cells slots lc' rl (am_okt os) (am_olset2 (am_okh os) ol) (am_lv_store2 (v := am_L x) hl' hnl) hc hs)
theorem am_astore_n {q : Fin 4} {i : Nat} {x : Int} (hd : decode M.2.1 pc = .ok (.astore_n q, 1)) (hp : pc + 1 = pc') (hi : (q : Nat) = i) (hn : i < M.2.2.1) (hnl : am_nl ls i = true) (hls : ls.set i (some (am_R x)) = ls') (k : am_WP M bc bs pc' ls' st ρ h Q) : am_WP M bc bs pc ls (am_R x :: st) ρ h Q := by
  subst hp
  subst hls
  intro p l e R s m args below meth c Z D cI cS A n0 ad0 C ad H locs cells slots lc rl os ol hl hc hs
  exact lv_astore_n C.1.1.1 C.1.1.2.1 hd hi hl hn rfl (fun lc' hl' => k p l e R s m args below meth c Z D cI cS A n0 ad0 C ad H locs cells slots lc' rl (am_okt os) (am_olset (am_okh os) ol) (am_lv_store1 (v := am_R x) hl' hnl) hc hs)
theorem am_astore {i : Nat} {x : Int} (hd : decode M.2.1 pc = .ok (.astore i, 2)) (hp : pc + 2 = pc') (hn : i < M.2.2.1) (hnl : am_nl ls i = true) (hls : ls.set i (some (am_R x)) = ls') (k : am_WP M bc bs pc' ls' st ρ h Q) : am_WP M bc bs pc ls (am_R x :: st) ρ h Q := by
  subst hp
  subst hls
  intro p l e R s m args below meth c Z D cI cS A n0 ad0 C ad H locs cells slots lc rl os ol hl hc hs
  exact lv_astore C.1.1.1 C.1.1.2.1 hd hl hn rfl (fun lc' hl' => k p l e R s m args below meth c Z D cI cS A n0 ad0 C ad H locs cells slots lc' rl (am_okt os) (am_olset (am_okh os) ol) (am_lv_store1 (v := am_R x) hl' hnl) hc hs)
theorem am_iinc {i : Nat} {x n : Int} (hd : decode M.2.1 pc = .ok (.iinc i n, 3)) (hp : pc + 3 = pc') (hx : ls[i]? = some (some (am_I x))) (hr : am_okI (x + n)) (hn : i < M.2.2.1) (hnl : am_nl ls i = true) (hls : ls.set i (some (am_I (x + n))) = ls') (k : am_WP M bc bs pc' ls' st ρ h Q) : am_WP M bc bs pc ls st ρ h Q := by
  subst hp
  subst hls
  intro p l e R s m args below meth c Z D cI cS A n0 ad0 C ad H locs cells slots lc rl os ol hl hc hs
  obtain ⟨kk, hkk⟩ := List.getElem?_of_mem ((am_lv_mem ad ls 0 (i, am_c ad (am_I x))).mpr ⟨i, am_I x, hx, by simp⟩)
  exact lv_iinc (v := Int32.ofInt (x + n)) C.1.1.1 C.1.1.2.1 hd hl hkk (Int32.ofInt_add x n).symm hn rfl (fun lc' hl' => k p l e R s m args below meth c Z D cI cS A n0 ad0 C ad H locs cells slots lc' rl os (am_olset (v := am_I (x + n)) hr ol) (am_lv_store1 (v := am_I (x + n)) hl' hnl) hc hs)
end AMR
end
section
/-! the classes -/
theorem inX_X0 : ∀ w ∈ u_ws RX0 TX0 14, am_T w := am_inT _ [105, 107, 109, 111, 113, 115, 117, 119, 121, 123, 125, 127, 129, 131] (by decide +kernel) (by decide +kernel)
theorem inX_X1 : ∀ w ∈ u_ws RX1 TX1 3, am_T w := am_inT _ [188, 190, 192] (by decide +kernel) (by decide +kernel)
theorem inX_X2 : ∀ w ∈ u_ws RX2 TX2 4, am_T w := am_inT _ [167, 169, 171, 173] (by decide +kernel) (by decide +kernel)
theorem inX_X3 : ∀ w ∈ u_ws RX3 TX3 5, am_T w := am_inT _ [64, 66, 68, 70, 72] (by decide +kernel) (by decide +kernel)
theorem inX_X4 : ∀ w ∈ u_ws RX4 TX4 3, am_T w := am_inT _ [33, 35, 37] (by decide +kernel) (by decide +kernel)
theorem inX_X5 : ∀ w ∈ u_ws RX5 TX5 5, am_T w := am_inT _ [145, 147, 149, 151, 153] (by decide +kernel) (by decide +kernel)
theorem inX_X7 : ∀ w ∈ u_ws RX7 TX7 10, am_T w := am_inT _ [205, 207, 209, 211, 213, 215, 217, 219, 221, 223] (by decide +kernel) (by decide +kernel)
theorem inX_X8 : ∀ w ∈ u_ws RX8 TX8 32, am_T w := am_inT _ [711, 713, 715, 717, 719, 721, 723, 725, 727, 729, 731, 733, 735, 737, 739, 741, 743, 745, 747, 749, 751, 753, 755, 757, 759, 761, 763, 765, 767, 769, 771, 773] (by decide +kernel) (by decide +kernel)
def am_ty (ci : Nat) : Nat → FieldType := match ci with
  | 0 => tyX0
  | 1 => tyX1
  | 2 => tyX2
  | 3 => tyX3
  | 4 => tyX4
  | 5 => tyX5
  | 6 => tyX7
  | _ => tyX8
theorem am_tyI0 : ∀ ci, ci < 8 → ∀ k, k < am_N ci → am_isI ci k = true → am_ty ci k = .int := by decide +kernel
theorem am_tyR_0 : ∀ k, k < 14 → am_isI 0 k = false → defaultValue (am_ty 0 k) = .null ∧ ∀ a, narrow (am_ty 0 k) (.ref a) = .ref a ∧ fits (am_ty 0 k) (.ref a) = true
  | 0, _, _ => ⟨rfl, fun _ => ⟨rfl, rfl⟩⟩
  | 1, _, _ => ⟨rfl, fun _ => ⟨rfl, rfl⟩⟩
  | 2, _, _ => ⟨rfl, fun _ => ⟨rfl, rfl⟩⟩
  | 3, _, _ => ⟨rfl, fun _ => ⟨rfl, rfl⟩⟩
  | 4, _, _ => ⟨rfl, fun _ => ⟨rfl, rfl⟩⟩
  | 5, _, _ => ⟨rfl, fun _ => ⟨rfl, rfl⟩⟩
  | 6, _, h => by simp [am_isI] at h
  | 7, _, h => by simp [am_isI] at h
  | 8, _, h => by simp [am_isI] at h
  | 9, _, h => by simp [am_isI] at h
  | 10, _, h => by simp [am_isI] at h
  | 11, _, h => by simp [am_isI] at h
  | 12, _, h => by simp [am_isI] at h
  | 13, _, h => by simp [am_isI] at h
  | k + 14, h, _ => by omega
theorem am_tyR_1 : ∀ k, k < 3 → am_isI 1 k = false → defaultValue (am_ty 1 k) = .null ∧ ∀ a, narrow (am_ty 1 k) (.ref a) = .ref a ∧ fits (am_ty 1 k) (.ref a) = true
  | 0, _, h => by simp [am_isI] at h
  | 1, _, h => by simp [am_isI] at h
  | 2, _, h => by simp [am_isI] at h
  | k + 3, h, _ => by omega
theorem am_tyR_2 : ∀ k, k < 4 → am_isI 2 k = false → defaultValue (am_ty 2 k) = .null ∧ ∀ a, narrow (am_ty 2 k) (.ref a) = .ref a ∧ fits (am_ty 2 k) (.ref a) = true
  | 0, _, _ => ⟨rfl, fun _ => ⟨rfl, rfl⟩⟩
  | 1, _, _ => ⟨rfl, fun _ => ⟨rfl, rfl⟩⟩
  | 2, _, _ => ⟨rfl, fun _ => ⟨rfl, rfl⟩⟩
  | 3, _, h => by simp [am_isI] at h
  | k + 4, h, _ => by omega
theorem am_tyR_3 : ∀ k, k < 5 → am_isI 3 k = false → defaultValue (am_ty 3 k) = .null ∧ ∀ a, narrow (am_ty 3 k) (.ref a) = .ref a ∧ fits (am_ty 3 k) (.ref a) = true
  | 0, _, h => by simp [am_isI] at h
  | 1, _, h => by simp [am_isI] at h
  | 2, _, _ => ⟨rfl, fun _ => ⟨rfl, rfl⟩⟩
  | 3, _, _ => ⟨rfl, fun _ => ⟨rfl, rfl⟩⟩
  | 4, _, _ => ⟨rfl, fun _ => ⟨rfl, rfl⟩⟩
  | k + 5, h, _ => by omega
theorem am_tyR_4 : ∀ k, k < 3 → am_isI 4 k = false → defaultValue (am_ty 4 k) = .null ∧ ∀ a, narrow (am_ty 4 k) (.ref a) = .ref a ∧ fits (am_ty 4 k) (.ref a) = true
  | 0, _, h => by simp [am_isI] at h
  | 1, _, h => by simp [am_isI] at h
  | 2, _, _ => ⟨rfl, fun _ => ⟨rfl, rfl⟩⟩
  | k + 3, h, _ => by omega
theorem am_tyR_5 : ∀ k, k < 5 → am_isI 5 k = false → defaultValue (am_ty 5 k) = .null ∧ ∀ a, narrow (am_ty 5 k) (.ref a) = .ref a ∧ fits (am_ty 5 k) (.ref a) = true
  | 0, _, _ => ⟨rfl, fun _ => ⟨rfl, rfl⟩⟩
  | 1, _, _ => ⟨rfl, fun _ => ⟨rfl, rfl⟩⟩
  | 2, _, _ => ⟨rfl, fun _ => ⟨rfl, rfl⟩⟩
  | 3, _, h => by simp [am_isI] at h
  | 4, _, h => by simp [am_isI] at h
  | k + 5, h, _ => by omega
theorem am_tyR_6 : ∀ k, k < 10 → am_isI 6 k = false → defaultValue (am_ty 6 k) = .null ∧ ∀ a, narrow (am_ty 6 k) (.ref a) = .ref a ∧ fits (am_ty 6 k) (.ref a) = true
  | 0, _, _ => ⟨rfl, fun _ => ⟨rfl, rfl⟩⟩
  | 1, _, _ => ⟨rfl, fun _ => ⟨rfl, rfl⟩⟩
  | 2, _, _ => ⟨rfl, fun _ => ⟨rfl, rfl⟩⟩
  | 3, _, _ => ⟨rfl, fun _ => ⟨rfl, rfl⟩⟩
  | 4, _, _ => ⟨rfl, fun _ => ⟨rfl, rfl⟩⟩
  | 5, _, _ => ⟨rfl, fun _ => ⟨rfl, rfl⟩⟩
  | 6, _, _ => ⟨rfl, fun _ => ⟨rfl, rfl⟩⟩
  | 7, _, h => by simp [am_isI] at h
  | 8, _, h => by simp [am_isI] at h
  | 9, _, h => by simp [am_isI] at h
  | k + 10, h, _ => by omega
theorem am_tyR_7 : ∀ k, k < 32 → am_isI 7 k = false → defaultValue (am_ty 7 k) = .null ∧ ∀ a, narrow (am_ty 7 k) (.ref a) = .ref a ∧ fits (am_ty 7 k) (.ref a) = true
  | 0, _, h => by simp [am_isI] at h
  | 1, _, h => by simp [am_isI] at h
  | 2, _, h => by simp [am_isI] at h
  | 3, _, h => by simp [am_isI] at h
  | 4, _, _ => ⟨rfl, fun _ => ⟨rfl, rfl⟩⟩
  | 5, _, _ => ⟨rfl, fun _ => ⟨rfl, rfl⟩⟩
  | 6, _, h => by simp [am_isI] at h
  | 7, _, h => by simp [am_isI] at h
  | 8, _, h => by simp [am_isI] at h
  | 9, _, _ => ⟨rfl, fun _ => ⟨rfl, rfl⟩⟩
  | 10, _, _ => ⟨rfl, fun _ => ⟨rfl, rfl⟩⟩
  | 11, _, _ => ⟨rfl, fun _ => ⟨rfl, rfl⟩⟩
  | 12, _, _ => ⟨rfl, fun _ => ⟨rfl, rfl⟩⟩
  | 13, _, _ => ⟨rfl, fun _ => ⟨rfl, rfl⟩⟩
  | 14, _, _ => ⟨rfl, fun _ => ⟨rfl, rfl⟩⟩
  | 15, _, _ => ⟨rfl, fun _ => ⟨rfl, rfl⟩⟩
  | 16, _, _ => ⟨rfl, fun _ => ⟨rfl, rfl⟩⟩
  | 17, _, _ => ⟨rfl, fun _ => ⟨rfl, rfl⟩⟩
  | 18, _, h => by simp [am_isI] at h
  | 19, _, h => by simp [am_isI] at h
  | 20, _, h => by simp [am_isI] at h
  | 21, _, h => by simp [am_isI] at h
  | 22, _, _ => ⟨rfl, fun _ => ⟨rfl, rfl⟩⟩
  | 23, _, h => by simp [am_isI] at h
  | 24, _, _ => ⟨rfl, fun _ => ⟨rfl, rfl⟩⟩
  | 25, _, _ => ⟨rfl, fun _ => ⟨rfl, rfl⟩⟩
  | 26, _, _ => ⟨rfl, fun _ => ⟨rfl, rfl⟩⟩
  | 27, _, _ => ⟨rfl, fun _ => ⟨rfl, rfl⟩⟩
  | 28, _, _ => ⟨rfl, fun _ => ⟨rfl, rfl⟩⟩
  | 29, _, _ => ⟨rfl, fun _ => ⟨rfl, rfl⟩⟩
  | 30, _, _ => ⟨rfl, fun _ => ⟨rfl, rfl⟩⟩
  | 31, _, h => by simp [am_isI] at h
  | k + 32, h, _ => by omega
theorem am_tyR0 : ∀ ci, ci < 8 → ∀ k, k < am_N ci → am_isI ci k = false → defaultValue (am_ty ci k) = .null ∧ ∀ a, narrow (am_ty ci k) (.ref a) = .ref a ∧ fits (am_ty ci k) (.ref a) = true := by
  intro ci hci k hk hi
  match ci, hci with
  | 0, _ => exact am_tyR_0 k hk hi
  | 1, _ => exact am_tyR_1 k hk hi
  | 2, _ => exact am_tyR_2 k hk hi
  | 3, _ => exact am_tyR_3 k hk hi
  | 4, _ => exact am_tyR_4 k hk hi
  | 5, _ => exact am_tyR_5 k hk hi
  | 6, _ => exact am_tyR_6 k hk hi
  | 7, _ => exact am_tyR_7 k hk hi
/-- what the tables say of a class -/
theorem am_cls {ci : Nat} {C : String} {T : u_T} {N : Nat} (h : vwCl[ci]? = some (C, T, N)) : (∀ w ∈ u_ws C T N, w ∈ am_G) ∧ (∀ k, k < N → parseFieldDescriptor (T k).2.2.1 = some (am_ty ci k)) ∧ (∀ a, a < N → ∀ b, b < N → a ≠ b → (T a).2.1 ≠ (T b).2.1) ∧ am_N ci = N ∧ ci < 8 := by
  match ci, h with
  | 0, h => cases h; exact ⟨fun w hw => am_G_iff.mpr (inX_X0 w hw), tyX0_ok, nmX0, rfl, by decide⟩
  | 1, h => cases h; exact ⟨fun w hw => am_G_iff.mpr (inX_X1 w hw), tyX1_ok, nmX1, rfl, by decide⟩
  | 2, h => cases h; exact ⟨fun w hw => am_G_iff.mpr (inX_X2 w hw), tyX2_ok, nmX2, rfl, by decide⟩
  | 3, h => cases h; exact ⟨fun w hw => am_G_iff.mpr (inX_X3 w hw), tyX3_ok, nmX3, rfl, by decide⟩
  | 4, h => cases h; exact ⟨fun w hw => am_G_iff.mpr (inX_X4 w hw), tyX4_ok, nmX4, rfl, by decide⟩
  | 5, h => cases h; exact ⟨fun w hw => am_G_iff.mpr (inX_X5 w hw), tyX5_ok, nmX5, rfl, by decide⟩
  | 6, h => cases h; exact ⟨fun w hw => am_G_iff.mpr (inX_X7 w hw), tyX7_ok, nmX7, rfl, by decide⟩
  | 7, h => cases h; exact ⟨fun w hw => am_G_iff.mpr (inX_X8 w hw), tyX8_ok, nmX8, rfl, by decide⟩
  | ci + 8, h => simp [vwCl] at h
theorem am_hts {args : Array Value} {s : State} (h : ∀ w, am_T w → w.before args s = true) : ∀ w ∈ am_G, w.before args s = true := fun w hw => h w (am_G_iff.mp hw)
def am_fl (own : String) (idx ci k : Nat) : Prop := ∃ (C : String) (T : u_T) (N : Nat), vwCl[ci]? = some (C, T, N) ∧ k < N ∧ am_T (.fieldLink own idx (T k).1 (T k).2.1 (T k).2.2.1)
/-- a cell that is there, of a kind -/
def am_in (ρ : am_H) (x : Int) (ci : Nat) : Prop := 0 < x ∧ x < ρ 0 0 ∧ am_K x = ci
theorem am_E_obj {cI cS : ClassId} {ad : Int → Nat} {ρ h : am_H} {x : Int} {ci : Nat} (hk : am_K x = ci) (h8 : ci < 8) : am_E cI cS ad ρ h x = .inr (ci, (List.range (am_N ci)).map (am_fv ad ρ h ci x)) := by
  subst hk
  unfold am_E
  rw [if_neg (by omega), if_neg (by omega)]
theorem am_E_arr {cI cS : ClassId} {ad : Int → Nat} {ρ h : am_H} {x : Int} (hk : am_K x = 8) : am_E cI cS ad ρ h x = .inl (cI, ((ρ x (-1)).toNat, .inl (fun j => Int32.ofInt (h x j)))) := by
  unfold am_E
  rw [if_pos hk]
theorem am_E_shs {cI cS : ClassId} {ad : Int → Nat} {ρ h : am_H} {x : Int} (hk : am_K x = 9) : am_E cI cS ad ρ h x = .inl (cS, ((ρ x (-1)).toNat, .inr (.inr (.inr (.inr (fun j => if ρ x j = 0 then none else some (ad (ρ x j)))))))) := by
  unfold am_E
  rw [if_neg (by omega), if_pos hk]
theorem am_rng_u {ρ h : am_H} {x k v : Int} (hr : am_rng ρ h) (hv : am_okI v) : am_rng ρ (am_u h x k v) := by
  refine ⟨hr.1, fun y j => ?_, hr.2.2⟩
  unfold am_u
  split
  · exact hv
  · exact hr.2.1 y j
theorem am_rng_ur {ρ h : am_H} {x k v : Int} (hr : am_rng ρ h) (hx : 0 < x) (hk : 0 ≤ k) (h0 : 0 ≤ v) (h1 : v < ρ 0 0) : am_rng (am_u ρ x k v) h := by
  have e : am_u ρ x k v 0 0 = ρ 0 0 := am_u_n (by omega)
  refine ⟨by rw [e]; exact hr.1, hr.2.1, fun y => ?_, fun y j hy hj => ?_⟩
  · rw [am_u_n (by omega)]; exact hr.2.2.1 y
  · rw [e]
    unfold am_u
    split
    · exact ⟨h0, h1⟩
    · exact hr.2.2.2 y j hy hj
theorem am_ws_u {cI cS : ClassId} {ad : Int → Nat} {ρ h : am_H} {x k v : Int} (hr : am_rng ρ h) (hx : 0 < x) : am_ws cI cS ad ρ (am_u h x k v) = (am_ws cI cS ad ρ h).set (x.toNat - 1) (ad x, am_E cI cS ad ρ (am_u h x k v) x) :=
  am_ws_set hx rfl (fun y hy hyx => am_E_ext (n := ρ 0 0) hy (fun j hj => (hr.2.2.2 y j hy hj).2) (fun _ _ => rfl) (fun _ => rfl) (fun j _ => am_u_n (by omega)))
theorem am_ws_ur {cI cS : ClassId} {ad : Int → Nat} {ρ h : am_H} {x k v : Int} (hr : am_rng ρ h) (hx : 0 < x) : am_ws cI cS ad (am_u ρ x k v) h = (am_ws cI cS ad ρ h).set (x.toNat - 1) (ad x, am_E cI cS ad (am_u ρ x k v) h x) :=
  am_ws_set hx (am_u_n (by omega)) (fun y hy hyx => am_E_ext (n := ρ 0 0) hy (fun j hj => (hr.2.2.2 y j hy hj).2) (fun _ _ => rfl) (fun j => am_u_n (by omega)) (fun j _ => rfl))
section AMR
variable {M : am_M} {bc bs pc pc' tgt : Nat} {ls ls' : List (Option am_V)} {st st' : List am_V} {ρ h : am_H} {Q : am_Q}
theorem am_getI {x : Int} {idx ci k : Nat} (hd : decode M.2.1 pc = .ok (.getfield idx, 3)) (hp : pc + 3 = pc') (lk : am_fl M.1.cls idx ci k) (hx : am_in ρ x ci) (hI : am_isI ci k = true) (kk : am_WP M bc bs pc' ls (am_I (h x k) :: st) ρ h Q) : am_WP M bc bs pc ls (am_R x :: st) ρ h Q := by
  subst hp
  obtain ⟨C, T, N, hc, hk, hw⟩ := lk
  obtain ⟨hin, hty, hnm, hN, h8⟩ := am_cls hc
  intro p l e R s m args below meth c Z D cI cS A n0 ad0 Cx ad H locs cells slots lc rl os ol hl hcs hss
  have he := am_ws_get (cI := cI) (cS := cS) (ad := ad) (h := h) hx.1 hx.2.1
  rw [am_E_obj hx.2.2 h8, hN] at he
  refine va_get (fs := (List.range N).map (am_fv ad ρ h ci x)) Cx.1.1.1 Cx.1.1.2.1 (am_hts Cx.1.2.1) hin Cx.1.1.2.2.2 Cx.1.2.2.2.1 rl.2.2.2.1 _ he hc k hk (Cx.1.2.1 _ hw) (fun _ z => z) (v := .int (Int32.ofInt (h x k))) ?_ hd (kk p l e R s m args below meth c Z D cI cS A n0 ad0 Cx ad H locs cells slots lc rl (am_okI1 (rl.1.2.1 x k) (am_okt os)) ol hl hcs hss)
  rw [List.getElem?_map, List.getElem?_range hk]
  simp [am_fv, hI]
theorem am_getR {x y : Int} {idx ci k : Nat} (hd : decode M.2.1 pc = .ok (.getfield idx, 3)) (hp : pc + 3 = pc') (lk : am_fl M.1.cls idx ci k) (hx : am_in ρ x ci) (hI : am_isI ci k = false) (hy : ρ x k = y) (hy0 : 0 < y) (kk : am_WP M bc bs pc' ls (am_R y :: st) ρ h Q) : am_WP M bc bs pc ls (am_R x :: st) ρ h Q := by
  subst hp
  obtain ⟨C, T, N, hc, hk, hw⟩ := lk
  obtain ⟨hin, hty, hnm, hN, h8⟩ := am_cls hc
  intro p l e R s m args below meth c Z D cI cS A n0 ad0 Cx ad H locs cells slots lc rl os ol hl hcs hss
  have he := am_ws_get (cI := cI) (cS := cS) (ad := ad) (h := h) hx.1 hx.2.1
  rw [am_E_obj hx.2.2 h8, hN] at he
  have hyn : y < ρ 0 0 := by rw [← hy]; exact (rl.1.2.2.2 x k hx.1 (by omega)).2
  refine va_get (fs := (List.range N).map (am_fv ad ρ h ci x)) Cx.1.1.1 Cx.1.1.2.1 (am_hts Cx.1.2.1) hin Cx.1.1.2.2.2 Cx.1.2.2.2.1 rl.2.2.2.1 _ he hc k hk (Cx.1.2.1 _ hw) (fun _ z => z) (v := .ref (ad y)) ?_ hd (kk p l e R s m args below meth c Z D cI cS A n0 ad0 Cx ad H locs cells slots lc rl (am_okR1 hyn (am_okt os)) ol hl hcs hss)
  rw [List.getElem?_map, List.getElem?_range hk]
  have : ¬ y = 0 := by omega
  simp [am_fv, hI, hy, this]
theorem am_putI {x v : Int} {idx ci k : Nat} (hd : decode M.2.1 pc = .ok (.putfield idx, 3)) (hp : pc + 3 = pc') (lk : am_fl M.1.cls idx ci k) (hx : am_in ρ x ci) (hI : am_isI ci k = true) (kk : am_WP M bc bs pc' ls st ρ (am_u h x k v) Q) (hfin : ∀ C T N, vwCl[ci]? = some (C, T, N) → (T k).2.2.2 = false) : am_WP M bc bs pc ls (am_I v :: am_R x :: st) ρ h Q := by
  subst hp
  obtain ⟨C, T, N, hc, hk, hw⟩ := lk
  obtain ⟨hin, hty, hnm, hN, h8⟩ := am_cls hc
  intro p l e R s m args below meth c Z D cI cS A n0 ad0 Cx ad H locs cells slots lc rl os ol hl hcs hss
  have he := am_ws_get (cI := cI) (cS := cS) (ad := ad) (h := h) hx.1 hx.2.1
  rw [am_E_obj hx.2.2 h8, hN] at he
  have hti : am_ty ci k = .int := am_tyI0 ci h8 k (by omega) hI
  have hE : am_ws cI cS ad ρ (am_u h x k v) = (am_ws cI cS ad ρ h).set (x.toNat - 1) (ad x, .inr (ci, ((List.range N).map (am_fv ad ρ h ci x)).set k (.int (Int32.ofInt v)))) := by
    rw [am_ws_u rl.1 hx.1, am_E_obj hx.2.2 h8, hN]
    congr 4
    refine am_map_set _ _ _ _ _ ?_ (fun j hj => ?_)
    · simp [am_fv, hI, am_u]
    · unfold am_fv
      rw [am_u_n (by omega)]
  refine va_put (fs := (List.range N).map (am_fv ad ρ h ci x)) (v := .int (Int32.ofInt v)) (ty := .int) Cx.1.1.1 Cx.1.1.2.1 (am_hts Cx.1.2.1) hin (am_ty ci) hty hnm Cx.1.1.2.2.2 Cx.1.2.2.2.1 rl.2.2.2.1 rl.2.2.2.2.1 rl.2.2.2.2.2 _ he hc k hk (Cx.1.2.1 _ hw) (fun _ z => z) (hfin C T N hc) (by rw [hty k hk, hti]) rfl rfl (by simpa using hk) hd (fun H1 locs1 hP1 hD1 hS1 => ?_)
  exact kk p l e R s m args below meth c Z D cI cS A n0 ad0 Cx ad H1 locs1 cells slots lc ⟨am_rng_u rl.1 (am_okh os), rl.2.1, rl.2.2.1, by rw [hE]; exact hP1, by rw [hE]; exact hD1, hS1⟩ (am_okt (am_okt os)) ol hl hcs hss
theorem am_hE_R {cI cS : ClassId} {ad : Int → Nat} {x v : Int} {ci k N : Nat} (hr : am_rng ρ h) (hx : am_in ρ x ci) (h8 : ci < 8) (hN : am_N ci = N) (hI : am_isI ci k = false) (hv0 : 0 < v) : am_ws cI cS ad (am_u ρ x k v) h = (am_ws cI cS ad ρ h).set (x.toNat - 1) (ad x, .inr (ci, ((List.range N).map (am_fv ad ρ h ci x)).set k (.ref (ad v)))) := by
  rw [am_ws_ur hr hx.1, am_E_obj hx.2.2 h8, hN]
  congr 4
  have : ¬ v = 0 := by omega
  refine am_map_set _ _ _ _ _ ?_ (fun j hj => ?_)
  · simp [am_fv, hI, am_u, this]
  · unfold am_fv
    rw [am_u_n (by omega)]
theorem am_putR {x v : Int} {idx ci k : Nat} (hd : decode M.2.1 pc = .ok (.putfield idx, 3)) (hp : pc + 3 = pc') (lk : am_fl M.1.cls idx ci k) (hx : am_in ρ x ci) (hI : am_isI ci k = false) (hv0 : 0 < v) (kk : am_WP M bc bs pc' ls st (am_u ρ x k v) h Q) (hfin : ∀ C T N, vwCl[ci]? = some (C, T, N) → (T k).2.2.2 = false) : am_WP M bc bs pc ls (am_R v :: am_R x :: st) ρ h Q := by
  subst hp
  obtain ⟨C, T, N, hc, hk, hw⟩ := lk
  obtain ⟨hin, hty, hnm, hN, h8⟩ := am_cls hc
  intro p l e R s m args below meth c Z D cI cS A n0 ad0 Cx ad H locs cells slots lc rl os ol hl hcs hss
  have he := am_ws_get (cI := cI) (cS := cS) (ad := ad) (h := h) hx.1 hx.2.1
  rw [am_E_obj hx.2.2 h8, hN] at he
  have hti := (am_tyR0 ci h8 k (by omega) hI).2 (ad v)
  have hE := am_hE_R (cI := cI) (cS := cS) (ad := ad) rl.1 hx h8 hN hI hv0
  have en : am_u ρ x k v 0 0 = ρ 0 0 := am_u_n (by have := hx.1; omega)
  refine va_put (fs := (List.range N).map (am_fv ad ρ h ci x)) (v := .ref (ad v)) (ty := am_ty ci k) Cx.1.1.1 Cx.1.1.2.1 (am_hts Cx.1.2.1) hin (am_ty ci) hty hnm Cx.1.1.2.2.2 Cx.1.2.2.2.1 rl.2.2.2.1 rl.2.2.2.2.1 rl.2.2.2.2.2 _ he hc k hk (Cx.1.2.1 _ hw) (fun _ z => z) (hfin C T N hc) (hty k hk) hti.1 hti.2 (by simpa using hk) hd (fun H1 locs1 hP1 hD1 hS1 => ?_)
  exact kk p l e R s m args below meth c Z D cI cS A n0 ad0 Cx ad H1 locs1 cells slots lc ⟨am_rng_ur rl.1 hx.1 (by omega) (by omega) (am_okh os), by rw [en]; exact rl.2.1, rl.2.2.1, by rw [hE]; exact hP1, by rw [hE]; exact hD1, hS1⟩ (by rw [en]; exact am_okt (am_okt os)) (by rw [en]; exact ol) hl hcs hss
theorem am_putF {x v : Int} {idx ci k : Nat} (hd : decode M.2.1 pc = .ok (.putfield idx, 3)) (hp : pc + 3 = pc') (lk : am_fl M.1.cls idx ci k) (hx : am_in ρ x ci) (hI : am_isI ci k = false) (hv0 : 0 < v) (kk : am_WP M bc bs pc' ls st (am_u ρ x k v) h Q) (hfin : ∀ C T N, vwCl[ci]? = some (C, T, N) → (T k).2.2.2 = true ∧ (T k).1 = M.1.cls) (hin2 : M.1.name = "<init>") : am_WP M bc bs pc ls (am_R v :: am_R x :: st) ρ h Q := by
  subst hp
  obtain ⟨C, T, N, hc, hk, hw⟩ := lk
  obtain ⟨hin, hty, hnm, hN, h8⟩ := am_cls hc
  intro p l e R s m args below meth c Z D cI cS A n0 ad0 Cx ad H locs cells slots lc rl os ol hl hcs hss
  have he := am_ws_get (cI := cI) (cS := cS) (ad := ad) (h := h) hx.1 hx.2.1
  rw [am_E_obj hx.2.2 h8, hN] at he
  have hti := (am_tyR0 ci h8 k (by omega) hI).2 (ad v)
  have hE := am_hE_R (cI := cI) (cS := cS) (ad := ad) rl.1 hx h8 hN hI hv0
  have en : am_u ρ x k v 0 0 = ρ 0 0 := am_u_n (by have := hx.1; omega)
  refine va_putF (fs := (List.range N).map (am_fv ad ρ h ci x)) (v := .ref (ad v)) (ty := am_ty ci k) Cx.1.1.1 Cx.1.1.2.1 (am_hts Cx.1.2.1) hin (am_ty ci) hty hnm Cx.1.1.2.2.2 Cx.1.2.2.2.1 rl.2.2.2.1 rl.2.2.2.2.1 rl.2.2.2.2.2 _ he hc k hk (Cx.1.2.1 _ hw) (fun _ z => z) (hfin C T N hc).1 (Cx.1.2.2.1 hin2) (hfin C T N hc).2 (hty k hk) hti.1 hti.2 (by simpa using hk) hd (fun H1 locs1 hP1 hD1 hS1 => ?_)
  exact kk p l e R s m args below meth c Z D cI cS A n0 ad0 Cx ad H1 locs1 cells slots lc ⟨am_rng_ur rl.1 hx.1 (by omega) (by omega) (am_okh os), by rw [en]; exact rl.2.1, rl.2.2.1, by rw [hE]; exact hP1, by rw [hE]; exact hD1, hS1⟩ (by rw [en]; exact am_okt (am_okt os)) (by rw [en]; exact ol) hl hcs hss
end AMR
end
section
/-! rows of ints, rows of sheets, new cells -/
theorem am_vin {i len : Int} (hi : am_okI i) (h0 : 0 ≤ i) (h1 : i < len) : vp_in (Int32.ofInt i) len.toNat := by
  rw [vp_in_iff, am_toInt hi]
  exact ⟨h0, by omega⟩
theorem am_clamp {i : Int} (hi : am_okI i) (h0 : 0 ≤ i) : (Int32.ofInt i).toNatClampNeg = i.toNat := by
  show (Int32.ofInt i).toInt.toNat = _
  rw [am_toInt hi]
theorem am_okIx {i len : Int} (h0 : 0 ≤ i) (h1 : i < len) (h2 : len < 2147483648) : am_okI i := ⟨by omega, by omega⟩
/-- a row written over by another's cells -/
def am_cpy (h : am_H) (a sp b dp n : Int) : am_H := fun y j => if y = b ∧ dp ≤ j ∧ j < dp + n then h a (sp + (j - dp)) else h y j
section AMR
variable {M : am_M} {bc bs pc pc' tgt : Nat} {ls ls' : List (Option am_V)} {st st' : List am_V} {ρ h : am_H} {Q : am_Q}
theorem am_iaload {a i : Int} (hd : decode M.2.1 pc = .ok (.iaload, 1)) (hp : pc + 1 = pc') (ha : am_in ρ a 8) (h0 : 0 ≤ i) (h1 : i < ρ a (-1)) (kk : am_WP M bc bs pc' ls (am_I (h a i) :: st) ρ h Q) : am_WP M bc bs pc ls (am_I i :: am_R a :: st) ρ h Q := by
  subst hp
  intro p l e R s m args below meth c Z D cI cS A n0 ad0 Cx ad H locs cells slots lc rl os ol hl hcs hss
  have he := am_ws_get (cI := cI) (cS := cS) (ad := ad) (h := h) ha.1 ha.2.1
  rw [am_E_arr ha.2.2] at he
  have hi : am_okI i := am_okh os
  refine va_iald Cx.1.1.1 Cx.1.1.2.1 Cx.1.2.2.2.1 rl.2.2.2.1 _ 0 he rfl (am_vin hi h0 h1) hd ?_
  have kw := kk p l e R s m args below meth c Z D cI cS A n0 ad0 Cx ad H locs cells slots lc rl (am_okI1 (rl.1.2.1 a i) (am_okt (am_okt os))) ol hl hcs hss
  rw [am_clamp hi h0, Int.toNat_of_nonneg h0]
  exact kw
theorem am_iastore {a i v : Int} (hd : decode M.2.1 pc = .ok (.iastore, 1)) (hp : pc + 1 = pc') (ha : am_in ρ a 8) (h0 : 0 ≤ i) (h1 : i < ρ a (-1)) (kk : am_WP M bc bs pc' ls st ρ (am_u h a i v) Q) : am_WP M bc bs pc ls (am_I v :: am_I i :: am_R a :: st) ρ h Q := by
  subst hp
  intro p l e R s m args below meth c Z D cI cS A n0 ad0 Cx ad H locs cells slots lc rl os ol hl hcs hss
  have he := am_ws_get (cI := cI) (cS := cS) (ad := ad) (h := h) ha.1 ha.2.1
  rw [am_E_arr ha.2.2] at he
  have hi : am_okI i := am_okh (am_okt os)
  have hE : am_ws cI cS ad ρ (am_u h a i v) = (am_ws cI cS ad ρ h).set (a.toNat - 1) (ad a, .inl (cI, (ρ a (-1)).toNat, .inl (upd (fun j => Int32.ofInt (h a j)) (Int32.ofInt i).toNatClampNeg (Int32.ofInt v)))) := by
    rw [am_ws_u rl.1 ha.1, am_E_arr ha.2.2, am_clamp hi h0]
    have e9 : (fun j : Nat => Int32.ofInt (am_u h a i v a j)) = upd (fun j => Int32.ofInt (h a j)) i.toNat (Int32.ofInt v) := by
      funext j
      unfold upd am_u
      by_cases hj : j = i.toNat
      · rw [if_pos hj, if_pos ⟨rfl, by omega⟩]
      · rw [if_neg hj, if_neg (by omega)]
    rw [e9]
  refine va_iast Cx.1.1.1 Cx.1.1.2.1 Cx.1.2.2.2.1 rl.2.2.2.1 rl.2.2.2.2.1 rl.2.2.2.2.2 _ 0 he rfl (am_vin hi h0 h1) hd (fun H1 locs1 hP1 hD1 hS1 => ?_)
  exact kk p l e R s m args below meth c Z D cI cS A n0 ad0 Cx ad H1 locs1 cells slots lc ⟨am_rng_u rl.1 (am_okh os), rl.2.1, rl.2.2.1, by rw [hE]; exact hP1, by rw [hE]; exact hD1, hS1⟩ (am_okt (am_okt (am_okt os))) ol hl hcs hss
theorem am_alen {a n : Int} (hd : decode M.2.1 pc = .ok (.arraylength, 1)) (hp : pc + 1 = pc') (ha : am_in ρ a 8) (hn : ρ a (-1) = n) (kk : am_WP M bc bs pc' ls (am_I n :: st) ρ h Q) : am_WP M bc bs pc ls (am_R a :: st) ρ h Q := by
  subst hp
  subst hn
  intro p l e R s m args below meth c Z D cI cS A n0 ad0 Cx ad H locs cells slots lc rl os ol hl hcs hss
  have he := am_ws_get (cI := cI) (cS := cS) (ad := ad) (h := h) ha.1 ha.2.1
  rw [am_E_arr ha.2.2] at he
  have hln := rl.1.2.2.1 a
  refine va_alen (v := Int32.ofInt (ρ a (-1))) Cx.1.1.1 Cx.1.1.2.1 Cx.1.2.2.2.1 rl.2.2.2.1 _ 0 he rfl ?_ hd (kk p l e R s m args below meth c Z D cI cS A n0 ad0 Cx ad H locs cells slots lc rl (am_okI1 ⟨by omega, by omega⟩ (am_okt os)) ol hl hcs hss)
  show Int32.ofNat (ρ a (-1)).toNat = _
  rw [← Int32.ofInt_eq_ofNat, Int.toNat_of_nonneg hln.1]
theorem am_alenS {a n : Int} (hd : decode M.2.1 pc = .ok (.arraylength, 1)) (hp : pc + 1 = pc') (ha : am_in ρ a 9) (hn : ρ a (-1) = n) (kk : am_WP M bc bs pc' ls (am_I n :: st) ρ h Q) : am_WP M bc bs pc ls (am_R a :: st) ρ h Q := by
  subst hp
  subst hn
  intro p l e R s m args below meth c Z D cI cS A n0 ad0 Cx ad H locs cells slots lc rl os ol hl hcs hss
  have he := am_ws_get (cI := cI) (cS := cS) (ad := ad) (h := h) ha.1 ha.2.1
  rw [am_E_shs ha.2.2] at he
  have hln := rl.1.2.2.1 a
  refine va_alen (v := Int32.ofInt (ρ a (-1))) Cx.1.1.1 Cx.1.1.2.1 Cx.1.2.2.2.1 rl.2.2.2.1 _ 1 he rfl ?_ hd (kk p l e R s m args below meth c Z D cI cS A n0 ad0 Cx ad H locs cells slots lc rl (am_okI1 ⟨by omega, by omega⟩ (am_okt os)) ol hl hcs hss)
  show Int32.ofNat (ρ a (-1)).toNat = _
  rw [← Int32.ofInt_eq_ofNat, Int.toNat_of_nonneg hln.1]
theorem am_aaload {a i y : Int} (hd : decode M.2.1 pc = .ok (.aaload, 1)) (hp : pc + 1 = pc') (ha : am_in ρ a 9) (h0 : 0 ≤ i) (h1 : i < ρ a (-1)) (hy : ρ a i = y) (hy0 : 0 < y) (kk : am_WP M bc bs pc' ls (am_R y :: st) ρ h Q) : am_WP M bc bs pc ls (am_I i :: am_R a :: st) ρ h Q := by
  subst hp
  intro p l e R s m args below meth c Z D cI cS A n0 ad0 Cx ad H locs cells slots lc rl os ol hl hcs hss
  have he := am_ws_get (cI := cI) (cS := cS) (ad := ad) (h := h) ha.1 ha.2.1
  rw [am_E_shs ha.2.2] at he
  have hi : am_okI i := am_okh os
  have hyn : y < ρ 0 0 := by rw [← hy]; exact (rl.1.2.2.2 a i ha.1 h0).2
  refine va_aldq Cx.1.1.1 Cx.1.1.2.1 Cx.1.2.2.2.1 rl.2.2.2.1 _ 1 he rfl (am_vin hi h0 h1) hd ?_
  have kw := kk p l e R s m args below meth c Z D cI cS A n0 ad0 Cx ad H locs cells slots lc rl (am_okR1 hyn (am_okt (am_okt os))) ol hl hcs hss
  rw [am_clamp hi h0, Int.toNat_of_nonneg h0, hy, if_neg (by omega)]
  exact kw
theorem am_aastore {a i v : Int} (hd : decode M.2.1 pc = .ok (.aastore, 1)) (hp : pc + 1 = pc') (ha : am_in ρ a 9) (hv : am_in ρ v 4) (h0 : 0 ≤ i) (h1 : i < ρ a (-1)) (kk : am_WP M bc bs pc' ls st (am_u ρ a i v) h Q) : am_WP M bc bs pc ls (am_R v :: am_I i :: am_R a :: st) ρ h Q := by
  subst hp
  intro p l e R s m args below meth c Z D cI cS A n0 ad0 Cx ad H locs cells slots lc rl os ol hl hcs hss
  have he := am_ws_get (cI := cI) (cS := cS) (ad := ad) (h := h) ha.1 ha.2.1
  rw [am_E_shs ha.2.2] at he
  have hev := am_ws_get (cI := cI) (cS := cS) (ad := ad) (h := h) hv.1 hv.2.1
  rw [am_E_obj hv.2.2 (by decide)] at hev
  have hi : am_okI i := am_okh (am_okt os)
  have en : am_u ρ a i v 0 0 = ρ 0 0 := am_u_n (by have := ha.1; omega)
  have hE : am_ws cI cS ad (am_u ρ a i v) h = (am_ws cI cS ad ρ h).set (a.toNat - 1) (ad a, .inl (cS, (ρ a (-1)).toNat, .inr (.inr (.inr (.inr (va_up (fun j : Nat => if ρ a j = 0 then none else some (ad (ρ a j))) (Int32.ofInt i).toNatClampNeg (some (ad v)))))))) := by
    rw [am_ws_ur rl.1 ha.1, am_E_shs ha.2.2, am_clamp hi h0, am_u_n (by omega)]
    have e9 : (fun j : Nat => if am_u ρ a i v a j = 0 then none else some (ad (am_u ρ a i v a j))) = va_up (fun j : Nat => if ρ a j = 0 then none else some (ad (ρ a j))) i.toNat (some (ad v)) := by
      funext j
      have := hv.1
      by_cases hj : j = i.toNat
      · have e8 : am_u ρ a i v a j = v := by unfold am_u; rw [if_pos ⟨rfl, by omega⟩]
        rw [e8, if_neg (by omega)]
        simp [va_up, hj]
      · have e8 : am_u ρ a i v a j = ρ a j := am_u_n (by omega)
        rw [e8]
        simp [va_up, hj]
    rw [e9]
  refine va_astq (r := (RX4, TX4, 3)) Cx.1.1.1 Cx.1.1.2.1 Cx.1.2.2.2.1 rl.2.2.2.1 rl.2.2.2.2.1 rl.2.2.2.2.2 _ 1 _ 4 he rfl hev rfl (am_vin hi h0 h1) hd (fun H1 locs1 hP1 hD1 hS1 => ?_)
  exact kk p l e R s m args below meth c Z D cI cS A n0 ad0 Cx ad H1 locs1 cells slots lc ⟨am_rng_ur rl.1 ha.1 h0 (by have := hv.1; omega) hv.2.1, by rw [en]; exact rl.2.1, rl.2.2.1, by rw [hE]; exact hP1, by rw [hE]; exact hD1, hS1⟩ (by rw [en]; exact am_okt (am_okt (am_okt os))) (by rw [en]; exact ol) hl hcs hss
theorem am_acopy {a b sp dp n : Int} {idx : Nat} (hd : decode M.2.1 pc = .ok (.invokestatic idx, 3)) (hp : pc + 3 = pc') (lk : am_T (.methodLink M.1.cls idx arraycopyName)) (w1 : am_T (.native arraycopyName)) (w2 : am_T (.static arraycopyName)) (w3 : am_T (.initialized "java/lang/System")) (ha : am_in ρ a 8) (hb : am_in ρ b 8)
    (h0 : 0 ≤ sp) (h1 : 0 ≤ dp) (h2 : 0 ≤ n) (h3 : sp + n ≤ ρ a (-1)) (h4 : dp + n ≤ ρ b (-1)) (hlev : (1 ≤ M.2.2.2.2.1)) (hrest : st = []) (kk : am_WP M bc bs pc' ls st ρ (am_cpy h a sp b dp n) Q) : am_WP M bc bs pc ls (am_I n :: am_I dp :: am_R b :: am_I sp :: am_R a :: st) ρ h Q := by
  subst hp
  subst hrest
  intro p l e R s m args below meth c Z D cI cS A n0 ad0 Cx ad H locs cells slots lc rl os ol hl hcs hss
  have hea := am_ws_get (cI := cI) (cS := cS) (ad := ad) (h := h) ha.1 ha.2.1
  rw [am_E_arr ha.2.2] at hea
  have heb := am_ws_get (cI := cI) (cS := cS) (ad := ad) (h := h) hb.1 hb.2.1
  rw [am_E_arr hb.2.2] at heb
  have kn : am_okI n := am_okh os
  have kd : am_okI dp := am_okh (am_okt os)
  have ks : am_okI sp := am_okh (am_okt (am_okt (am_okt os)))
  have hrng : am_rng ρ (am_cpy h a sp b dp n) := by
    refine ⟨rl.1.1, fun y j => ?_, rl.1.2.2⟩
    unfold am_cpy
    split
    · exact rl.1.2.1 _ _
    · exact rl.1.2.1 _ _
  have hE : am_ws cI cS ad ρ (am_cpy h a sp b dp n) = (am_ws cI cS ad ρ h).set (b.toNat - 1) (ad b, .inl (cI, (ρ b (-1)).toNat, .inl (va_cpy (fun j => Int32.ofInt (h a j)) (fun j => Int32.ofInt (h b j)) (Int32.ofInt sp).toNatClampNeg (Int32.ofInt dp).toNatClampNeg (Int32.ofInt n).toNatClampNeg))) := by
    rw [am_ws_set (ρ := ρ) (h := h) hb.1 rfl (fun y hy hyx => am_E_ext (n := ρ 0 0) hy (fun j hj => (rl.1.2.2.2 y j hy hj).2) (fun _ _ => rfl) (fun _ => rfl) (fun j _ => by unfold am_cpy; rw [if_neg (by omega)])), am_E_arr hb.2.2, am_clamp ks h0, am_clamp kd h1, am_clamp kn h2]
    have e9 : (fun j : Nat => Int32.ofInt (am_cpy h a sp b dp n b j)) = va_cpy (fun j => Int32.ofInt (h a j)) (fun j => Int32.ofInt (h b j)) sp.toNat dp.toNat n.toNat := by
      funext j
      unfold va_cpy am_cpy
      by_cases hj : dp.toNat ≤ j ∧ j < dp.toNat + n.toNat
      · rw [if_pos hj, if_pos ⟨rfl, by omega, by omega⟩]
        congr 2
        omega
      · rw [if_neg hj, if_neg (by omega)]
    rw [e9]
  have hR : R.frames = M.2.2.2.2.1 := Cx.1.2.2.2.2.2.1
  have hL : R.locals = 36 * M.2.2.2.2.1 := Cx.1.2.2.2.2.2.2.1
  refine va_copyi Cx.1.1.1 Cx.1.1.2.1 (Cx.1.1.2.2.1.trans hl.1.symm) Cx.1.1.2.2.2 (Cx.1.2.1 _ lk) (Cx.1.2.1 _ w1) (Cx.1.2.1 _ w2) (Cx.1.2.1 _ w3) Cx.1.2.2.2.1 rl.2.2.2.1 rl.2.2.2.2.1 rl.2.2.2.2.2 _ _ 0 0 (ty := .int) hea heb rfl rfl rfl (by rw [am_lt0 ks]; omega) (by rw [am_lt0 kd]; omega) (by rw [am_lt0 kn]; omega) (by rw [am_clamp ks h0, am_clamp kn h2]; omega) (by rw [am_clamp kd h1, am_clamp kn h2]; omega) (fun _ _ => rfl) (by omega) (by
      rw [hL]
      refine Nat.le_trans (m := 36) ?_ (by omega)
      show 0 + (nativeFrameWords "java/lang/System" "arraycopy" 5 + 11) ≤ 36
      decide +kernel) hd (fun H1 locs1 hP1 hD1 hS1 => ?_)
  exact kk p l e R s m args below meth c Z D cI cS A n0 ad0 Cx ad H1 locs1 cells slots lc ⟨hrng, rl.2.1, rl.2.2.1, by rw [hE]; exact hP1, by rw [hE]; exact hD1, hS1⟩ (fun v hv => by cases hv) ol hl hcs hss
end AMR
end
section
/-! new cells -/
theorem am_newR_n {ρ : am_H} (n : Int) (h0 : 0 < ρ 0 0) : am_newR ρ n 0 0 = ρ 0 0 + 1 := by
  unfold am_newR
  rw [if_neg (by omega), if_pos ⟨rfl, rfl⟩]
theorem am_newR_o {ρ : am_H} {n y j : Int} (h0 : 0 < y) (h1 : y ≠ ρ 0 0) : am_newR ρ n y j = ρ y j := by
  unfold am_newR
  rw [if_neg h1, if_neg (by omega)]
theorem am_rng_new {ρ h : am_H} {n : Int} (hr : am_rng ρ h) (h0 : 0 ≤ n) (h1 : n < 2147483648) : am_rng (am_newR ρ n) (am_newH ρ h) := by
  have hp := hr.1
  refine ⟨by rw [am_newR_n n hp]; omega, fun y j => ?_, fun y => ?_, fun y j hy hj => ?_⟩
  · unfold am_newH
    split
    · exact am_ok0
    · exact hr.2.1 y j
  · unfold am_newR
    split
    · rw [if_pos rfl]; exact ⟨h0, h1⟩
    · rw [if_neg (by omega)]; exact hr.2.2.1 y
  · rw [am_newR_n n hp]
    by_cases hy2 : y = ρ 0 0
    · unfold am_newR
      rw [if_pos hy2, if_neg (by omega)]
      omega
    · rw [am_newR_o hy hy2]
      have := hr.2.2.2 y j hy hj
      omega
theorem am_ws_new {cI cS : ClassId} {ad : Int → Nat} {ρ h : am_H} {n : Int} (q : Nat) (hr : am_rng ρ h) : am_ws cI cS (fun y => if y = ρ 0 0 then q else ad y) (am_newR ρ n) (am_newH ρ h) = am_ws cI cS ad ρ h ++ [(q, am_E cI cS (fun y => if y = ρ 0 0 then q else ad y) (am_newR ρ n) (am_newH ρ h) (ρ 0 0))] := by
  have e := am_ws_push (cI := cI) (cS := cS) (ad := ad) (ad' := fun y => if y = ρ 0 0 then q else ad y) (ρ := ρ) (h := h) (ρ' := am_newR ρ n) (h' := am_newH ρ h) hr.1 (am_newR_n n hr.1) (fun y hy => by simp; intro z; omega) (fun y hy hy2 => am_E_ext (n := ρ 0 0) hy (fun j hj => (hr.2.2.2 y j hy hj).2) (fun z hz => by simp; intro w; omega) (fun j => am_newR_o hy (by omega)) (fun j _ => by unfold am_newH; rw [if_neg (by omega)]))
  simpa using e
section AMR
variable {M : am_M} {bc bs pc pc' tgt : Nat} {ls ls' : List (Option am_V)} {st st' : List am_V} {ρ h : am_H} {Q : am_Q}
theorem am_newarr {n : Int} (hd : decode M.2.1 pc = .ok (.newarray .int, 2)) (hp : pc + 2 = pc') (hw : am_T (.arrayClass .int)) (h0 : 0 ≤ n) (h1 : n ≤ 100000000) (hk : am_K (ρ 0 0) = 8) (kk : am_WP M bc bs pc' ls (am_R (ρ 0 0) :: st) (am_newR ρ n) (am_newH ρ h) Q) : am_WP M (bc + 1) (bs + n.toNat) pc ls (am_I n :: st) ρ h Q := by
  subst hp
  intro p l e R s m args below meth c Z D cI cS A n0 ad0 Cx ad H locs cells slots lc rl os ol hl hcs hss
  have hp0 := rl.1.1
  have kn : am_okI n := am_okh os
  refine va_newa (atype := .int) (ty := .int) (a0 := (n.toNat, .inl (fun _ => 0))) Cx.1.1.1 Cx.1.1.2.1 (Cx.1.2.1 _ hw) rfl Cx.1.2.2.2.1 rl.2.2.2.1 rl.2.2.2.2.1 rl.2.2.2.2.2 Cx.1.2.2.2.2.1 (fun _ => rfl) (by rw [am_lt0 kn]; omega) (am_clamp kn h0) (by show n.toNat * 4 ≤ _; omega) (by omega) (by omega) hd (fun q cA H1 hK1 hP1 hD1 hS1 => ?_)
  have hcA : cA = cI := by
    have e1 := (hK1.2 2 (cA, .int) rfl).2
    have e2 := (Cx.1.2.2.2.1.2 0 (cI, .int) rfl).2
    exact Option.some.inj (e1.symm.trans e2)
  subst hcA
  have hE := am_ws_new (cI := cA) (cS := cS) (ad := ad) (n := n) q rl.1
  have hEn : am_E cA cS (fun y => if y = ρ 0 0 then q else ad y) (am_newR ρ n) (am_newH ρ h) (ρ 0 0) = .inl (cA, n.toNat, .inl (fun _ => 0)) := by
    rw [am_E_arr hk]
    have e1 : am_newR ρ n (ρ 0 0) (-1) = n := by unfold am_newR; rw [if_pos rfl, if_pos rfl]
    have e2 : (fun j : Nat => Int32.ofInt (am_newH ρ h (ρ 0 0) j)) = fun _ => 0 := by funext j; unfold am_newH; rw [if_pos rfl]; exact am_0
    rw [e1, e2]
  rw [hEn] at hE
  have hag : ∀ x, x < ρ 0 0 → (fun y => if y = ρ 0 0 then q else ad y) x = ad x := fun x hx => by simp; intro z; omega
  have en := am_newR_n n hp0
  have kw := kk p l e R s m args below meth c Z D cA cS A n0 ad0 Cx (fun y => if y = ρ 0 0 then q else ad y) H1 locs (cells + 1) (slots + n.toNat) lc ⟨am_rng_new rl.1 h0 (by omega), by rw [en]; have := rl.2.1; omega, fun x hx => by rw [hag x (by have := rl.2.1; omega)]; exact rl.2.2.1 x hx, by rw [hE]; exact hP1, by rw [hE]; exact hD1, hS1⟩
    (am_okR1 (by rw [en]; omega) (fun v hv => am_okV_mono (by rw [en]; omega) (am_okt os v hv))) (fun v hv => am_okV_mono (by rw [en]; omega) (ol v hv)) (by rw [am_lv_ext (ρ 0 0) hag ls 0 ol]; exact hl) (by omega) (by omega)
  rw [List.map_cons, am_c_R, am_st_ext hag (am_okt os)] at kw
  simpa using kw
theorem am_newsh {n : Int} {idx : Nat} (hd : decode M.2.1 pc = .ok (.anewarray idx, 3)) (hp : pc + 3 = pc') (hw : am_T (.classLink M.1.cls idx RX4)) (h0 : 0 ≤ n) (h1 : n ≤ 100000000) (hk : am_K (ρ 0 0) = 9) (kk : am_WP M bc bs pc' ls (am_R (ρ 0 0) :: st) (am_newR ρ n) (am_newH ρ h) Q) : am_WP M (bc + 1) (bs + n.toNat) pc ls (am_I n :: st) ρ h Q := by
  subst hp
  intro p l e R s m args below meth c Z D cI cS A n0 ad0 Cx ad H locs cells slots lc rl os ol hl hcs hss
  have hp0 := rl.1.1
  have kn : am_okI n := am_okh os
  refine va_newq (C := RX4) (N' := n.toNat) Cx.1.1.1 Cx.1.1.2.1 Cx.1.1.2.2.2 (Cx.1.2.1 _ hw) Cx.1.2.2.2.2.2.2.2.2.2.2 Cx.1.2.2.2.1 rl.2.2.2.1 rl.2.2.2.2.1 rl.2.2.2.2.2 Cx.1.2.2.2.2.1 (by rw [am_lt0 kn]; omega) (am_clamp kn h0) (by omega) (by omega) (by omega) hd (fun q cA H1 hK1 hP1 hD1 hS1 => ?_)
  have hcA : cA = cS := by
    obtain ⟨_, _, _, _, _, e1⟩ := (hK1.2 2 (cA, .object RX4) rfl).2
    obtain ⟨_, _, _, _, _, e2⟩ := (Cx.1.2.2.2.1.2 1 (cS, .object RX4) rfl).2
    exact Option.some.inj (e1.symm.trans e2)
  subst hcA
  have hE := am_ws_new (cI := cI) (cS := cA) (ad := ad) (n := n) q rl.1
  have hEn : am_E cI cA (fun y => if y = ρ 0 0 then q else ad y) (am_newR ρ n) (am_newH ρ h) (ρ 0 0) = .inl (cA, n.toNat, .inr (.inr (.inr (.inr (fun _ => none))))) := by
    rw [am_E_shs hk]
    have e1 : am_newR ρ n (ρ 0 0) (-1) = n := by unfold am_newR; rw [if_pos rfl, if_pos rfl]
    have e2 : ∀ j : Nat, am_newR ρ n (ρ 0 0) j = 0 := fun j => by unfold am_newR; rw [if_pos rfl, if_neg (by omega)]
    rw [e1]
    simp [e2]
  rw [hEn] at hE
  have hag : ∀ x, x < ρ 0 0 → (fun y => if y = ρ 0 0 then q else ad y) x = ad x := fun x hx => by simp; intro z; omega
  have en := am_newR_n n hp0
  have kw := kk p l e R s m args below meth c Z D cI cA A n0 ad0 Cx (fun y => if y = ρ 0 0 then q else ad y) H1 locs (cells + 1) (slots + n.toNat) lc ⟨am_rng_new rl.1 h0 (by omega), by rw [en]; have := rl.2.1; omega, fun x hx => by rw [hag x (by have := rl.2.1; omega)]; exact rl.2.2.1 x hx, by rw [hE]; exact hP1, by rw [hE]; exact hD1, hS1⟩
    (am_okR1 (by rw [en]; omega) (fun v hv => am_okV_mono (by rw [en]; omega) (am_okt os v hv))) (fun v hv => am_okV_mono (by rw [en]; omega) (ol v hv)) (by rw [am_lv_ext (ρ 0 0) hag ls 0 ol]; exact hl) (by omega) (by omega)
  rw [List.map_cons, am_c_R, am_st_ext hag (am_okt os)] at kw
  simpa using kw
theorem am_new {idx ci N : Nat} {C : String} {T : u_T} (hd : decode M.2.1 pc = .ok (.new idx, 3)) (hp : pc + 3 = pc') (hc : vwCl[ci]? = some (C, T, N)) (hw : am_T (.classLink M.1.cls idx C)) (hw2 : am_T (.instantiable C N)) (hw3 : am_T (.initialized C)) (hk : am_K (ρ 0 0) = ci) (kk : am_WP M bc bs pc' ls (am_R (ρ 0 0) :: st) (am_newR ρ 0) (am_newH ρ h) Q) : am_WP M (bc + 1) (bs + N) pc ls st ρ h Q := by
  subst hp
  obtain ⟨hin, hty, hnm, hN, h8⟩ := am_cls hc
  intro p l e R s m args below meth c Z D cI cS A n0 ad0 Cx ad H locs cells slots lc rl os ol hl hcs hss
  have hp0 := rl.1.1
  have e2 : ∀ j : Nat, am_newR ρ 0 (ρ 0 0) j = 0 := fun j => by unfold am_newR; rw [if_pos rfl, if_neg (by omega)]
  have e3 : ∀ j : Nat, am_newH ρ h (ρ 0 0) j = 0 := fun j => by unfold am_newH; rw [if_pos rfl]
  refine va_new (ci := ci) (fs := (List.range N).map (am_fv ad (am_newR ρ 0) (am_newH ρ h) ci (ρ 0 0))) Cx.1.1.1 Cx.1.1.2.1 (am_hts Cx.1.2.1) hin (am_ty ci) hty Cx.1.1.2.2.2 (Cx.1.2.1 _ hw) (Cx.1.2.1 _ hw2) (Cx.1.2.1 _ hw3) Cx.1.2.2.2.1 rl.2.2.2.1 rl.2.2.2.2.1 rl.2.2.2.2.2 Cx.1.2.2.2.2.1 hc (fun j hj => ?_) (by omega) (by omega) hd (fun q H1 hP1 hD1 hS1 => ?_)
  · have e4 : vp_V ((List.range N).map (am_fv ad (am_newR ρ 0) (am_newH ρ h) ci (ρ 0 0))) j = am_fv ad (am_newR ρ 0) (am_newH ρ h) ci (ρ 0 0) j := by
      unfold vp_V
      rw [List.getD_eq_getElem?_getD, List.getElem?_map, List.getElem?_range hj]
      rfl
    rw [e4]
    unfold am_fv
    cases hI : am_isI ci j with
    | true => rw [am_tyI0 ci h8 j (by omega) hI, if_pos rfl, e3, am_0]; rfl
    | false => rw [(am_tyR0 ci h8 j (by omega) hI).1, if_neg (by decide), if_pos (e2 j)]
  have hE := am_ws_new (cI := cI) (cS := cS) (ad := ad) (n := 0) q rl.1
  have hEn : am_E cI cS (fun y => if y = ρ 0 0 then q else ad y) (am_newR ρ 0) (am_newH ρ h) (ρ 0 0) = .inr (ci, (List.range N).map (am_fv ad (am_newR ρ 0) (am_newH ρ h) ci (ρ 0 0))) := by
    rw [am_E_obj hk h8, hN]
    congr 2
    apply List.map_congr_left
    intro j _
    unfold am_fv
    rw [e2]
    simp
  rw [hEn] at hE
  have hag : ∀ x, x < ρ 0 0 → (fun y => if y = ρ 0 0 then q else ad y) x = ad x := fun x hx => by simp; intro z; omega
  have en := am_newR_n 0 hp0
  have kw := kk p l e R s m args below meth c Z D cI cS A n0 ad0 Cx (fun y => if y = ρ 0 0 then q else ad y) H1 locs (cells + 1) (slots + N) lc ⟨am_rng_new rl.1 (by omega) (by omega), by rw [en]; have := rl.2.1; omega, fun x hx => by rw [hag x (by have := rl.2.1; omega)]; exact rl.2.2.1 x hx, by rw [hE]; exact hP1, by rw [hE]; exact hD1, hS1⟩
    (am_okR1 (by rw [en]; omega) (fun v hv => am_okV_mono (by rw [en]; omega) (os v hv))) (fun v hv => am_okV_mono (by rw [en]; omega) (ol v hv)) (by rw [am_lv_ext (ρ 0 0) hag ls 0 ol]; exact hl) (by omega) (by omega)
  rw [List.map_cons, am_c_R, am_st_ext hag os] at kw
  simpa using kw
theorem am_obji {x : Int} {idx : Nat} (hd : decode M.2.1 pc = .ok (.invokespecial idx, 3)) (hp : pc + 3 = pc') (hw : am_T (.methodLink M.1.cls idx objectInit)) (hw2 : am_T (.instanceMethod objectInit)) (hw3 : am_T (.code objectInit ⟨#[0xb1]⟩ 1 none)) (hlev : 1 ≤ M.2.2.2.2.1) (hrest : st = []) (kk : am_WP M bc bs pc' ls st ρ h Q) : am_WP M bc bs pc ls (am_R x :: st) ρ h Q := by
  subst hp
  subst hrest
  intro p l e R s m args below meth c Z D cI cS A n0 ad0 Cx ad H locs cells slots lc rl os ol hl hcs hss
  have hR : R.frames = M.2.2.2.2.1 := Cx.1.2.2.2.2.2.1
  have hL : R.locals = 36 * M.2.2.2.2.1 := Cx.1.2.2.2.2.2.2.1
  refine W.objInit Cx.1.1.1 Cx.1.1.2.1 Cx.1.1.2.2.2 (Cx.1.2.1 _ hw) (Cx.1.2.1 _ hw2) (Cx.1.2.1 _ hw3) rfl (hl.1.trans Cx.1.1.2.2.1.symm) rfl hd (by omega) (by show 2 * 0 + 0 + 12 ≤ _; omega) ?_
  exact kk p l e R s m args below meth c Z D cI cS A n0 ad0 Cx ad H locs cells slots lc rl (am_okt os) ol hl hcs hss
/-! ends -/
theorem am_retv (hd : decode M.2.1 pc = .ok (.return_, 1)) (hr : M.2.2.2.1 = none) (hq : Q none ρ h) : am_WP M bc bs pc ls [] ρ h Q := by
  intro p l e R s m args below meth c Z D cI cS A n0 ad0 Cx ad H locs cells slots lc rl os ol hl hcs hss
  exact Cx.2 none ρ h ad H locs cells slots lc pc hq (Or.inl ⟨rfl, hr, hd⟩) rl (fun v z => by cases z) (by omega) (by omega)
theorem am_reti {v : Int} (hd : decode M.2.1 pc = .ok (.ireturn, 1)) (hr : M.2.2.2.1 = some .int) (hq : Q (some (am_I v)) ρ h) : am_WP M bc bs pc ls [am_I v] ρ h Q := by
  intro p l e R s m args below meth c Z D cI cS A n0 ad0 Cx ad H locs cells slots lc rl os ol hl hcs hss
  exact Cx.2 (some (am_I v)) ρ h ad H locs cells slots lc pc hq (Or.inr (Or.inl ⟨v, rfl, hr, hd⟩)) rl (fun w z => by cases z; exact am_okh os) (by omega) (by omega)
theorem am_retz {v : Int} (hd : decode M.2.1 pc = .ok (.ireturn, 1)) (hr : M.2.2.2.1 = some .boolean) (hv : v = 0 ∨ v = 1) (hq : Q (some (am_I v)) ρ h) : am_WP M bc bs pc ls [am_I v] ρ h Q := by
  intro p l e R s m args below meth c Z D cI cS A n0 ad0 Cx ad H locs cells slots lc rl os ol hl hcs hss
  exact Cx.2 (some (am_I v)) ρ h ad H locs cells slots lc pc hq (Or.inr (Or.inr (Or.inl ⟨v, rfl, hv, hr, hd⟩))) rl (fun w z => by cases z; exact am_okh os) (by omega) (by omega)
theorem am_retl {v : Int} (hd : decode M.2.1 pc = .ok (.lreturn, 1)) (hr : M.2.2.2.1 = some .long) (hq : Q (some (am_L v)) ρ h) : am_WP M bc bs pc ls [am_L v] ρ h Q := by
  intro p l e R s m args below meth c Z D cI cS A n0 ad0 Cx ad H locs cells slots lc rl os ol hl hcs hss
  exact Cx.2 (some (am_L v)) ρ h ad H locs cells slots lc pc hq (Or.inr (Or.inr (Or.inr ⟨v, rfl, hr, hd⟩))) rl (fun w z => by cases z; exact am_okh os) (by omega) (by omega)
end AMR
end
section
/-! CONTRACTS -/
def am_W (M : am_M) : List Cond := .code M.1 M.2.1 M.2.2.1 M.2.2.2.1 :: am_G
def am_CT (M : am_M) (mc ms : Nat) (as : List am_V) (ρ h : am_H) (Q : am_Q) : Prop :=
  ∀ (l : Launch) (D : va_G) (cI cS : ClassId) (ad : Int → Nat) (sz : Nat), am_rng ρ h → (∀ v ∈ as, am_okV (ρ 0 0) v) →
    Met l M.1 (am_W M) { frames := M.2.2.2.2.1, cells := mc, slots := ms, locals := 36 * M.2.2.2.2.1 }
      (va_Pc (as.map (am_c ad)) (fun U => U.heap.size = sz ∧ va_P D vwCl (am_ws cI cS ad ρ h) U.heap ∧ va_K D vwCl [(cI, .int), (cS, .object RX4)] U ∧ va_D (fun _ => True) (am_ws cI cS ad ρ h) ∧ am_X U))
      (fun _ st oc t => (∃ (r : Option am_V) (ρ' h' : am_H) (ad' : Int → Nat), oc = .returned (r.map (am_c ad')) ∧ Q r ρ' h' ∧ (∀ v, r = some v → am_okV (ρ' 0 0) v) ∧ am_rng ρ' h' ∧ ρ 0 0 ≤ ρ' 0 0 ∧ (∀ x, x < ρ 0 0 → ad' x = ad x) ∧ va_P D vwCl (am_ws cI cS ad' ρ' h') t.heap ∧ va_D (va_A (am_ws cI cS ad ρ h) sz) (am_ws cI cS ad' ρ' h')) ∧ va_F (va_A (am_ws cI cS ad ρ h) sz) st t)
      mc ms (va_A (am_ws cI cS ad ρ h) sz)
def am_ok (M : am_M) (n : Nat) : Prop := am_T (.code M.1 M.2.1 M.2.2.1 M.2.2.2.1) ∧ am_T (.initialized M.1.cls) ∧ (M.1.cls ≠ "java/lang/invoke/MethodHandle" ∧ M.1.cls ≠ "java/lang/invoke/VarHandle") ∧ (parseMethodDescriptor M.1.desc).map (fun d => d.parameters.length) = some n ∧ M.2.2.1 ≤ 17 ∧ plainName M.1.cls = true
theorem am_W_good (M : am_M) {n : Nat} (h : am_ok M n) : GoodIn am_G (am_W M) := by
  intro w hw
  rcases List.mem_cons.mp hw with rfl | hw
  · exact ⟨am_G_iff.mpr h.1, good_of_word h.1.2⟩
  · exact ⟨hw, good_of_word (am_G_iff.mp hw).2⟩
theorem am_blind {as : List Value} {sz : Nat} {D : va_G} {ws : va_W} {tys : List (ClassId × FieldType)} : FrameBlind (va_Pc as (fun U => U.heap.size = sz ∧ va_P D vwCl ws U.heap ∧ va_K D vwCl tys U ∧ va_D (fun _ => True) ws ∧ am_X U)) := by
  intro a U g mk q
  obtain ⟨q0, q1, qP, qK, qD, qX⟩ := q
  exact ⟨q0, q1, qP, va_K.moved (u := U) (U := U.calling g mk a) (Vm.Alike.refl U.vm) qK, qD, am_X.same (u := U) (U := U.calling g mk a) rfl qX⟩
theorem am_A_sub {A : Nat → Prop} {H0 H : Heap} {locs : List Loc} {ws : va_W} (hD : va_D A ws) (hS : va_S A H0 H locs) (hA : ∀ q, H0.size ≤ q → A q) : ∀ q, va_A ws H.size q → A q := by
  intro q hq
  rcases hq with ⟨k, e, hk⟩ | hq
  · exact hD.2 k (q, e) hk
  · exact hA q (Nat.le_trans hS.1 hq)
/-- a method's contract out of its walk -/
theorem am_ct {M : am_M} {mc ms n : Nat} {as : List am_V} {ls : List (Option am_V)} {ρ h : am_H} {Q : am_Q} (hok : am_ok M n) (hS : M.2.2.2.2.2 = none) (hlen : ∀ ad, (lg_sl (as.map (am_c ad))).length ≤ M.2.2.1) (hls : ∀ ad, am_lv ad 0 ls = lv_args 0 (as.map (am_c ad))) (hmem : ∀ v, some v ∈ ls → v ∈ as)
    (hw : am_WP M mc ms 0 ls [] ρ h Q) : am_CT M mc ms as ρ h Q := by
  intro l D cI cS ad sz hrng hoks
  refine Met.ofW (cc := M.2.1) (maxL := M.2.2.1) (ret := M.2.2.2.1) (ws' := am_G) hok.2.2.2.2.2 rfl ?_
  intro p e s m args below meth c s₁ B hml hv
  obtain ⟨rfl, hsz, hP, hK, hD0, hX⟩ := hv
  have hx := B.exec
  have hb := B.bytes
  have hr := B.returns
  have hts := atoms_spec (ws := am_W M) B.pre
  have hown : s.vm.findClass M.1.cls = some m.cls := findClass_of_methodNamed B.named
  have hlocks := B.notSynchronized
  have hin : meth.name = M.1.name := (name_of_methodNamed B.named B.method).1
  subst hsz
  have hD := hD0.self (sz := s.heap.size)
  have hl := lv_entry (as.map (am_c ad)) (n := M.2.2.1) (hlen ad)
  rw [← hls ad] at hl
  rw [lg_entry_eq]
  refine hw p l e _ s m _ below meth c _ D cI cS (va_A (am_ws cI cS ad ρ h) s.heap.size) (ρ 0 0) ad ⟨⟨⟨hx, hb, hml, hown⟩, fun w hw => hts w (List.mem_cons_of_mem _ (am_G_iff.mpr hw)), fun z => hin.trans z, hK, fun q hq => Or.inr hq, rfl, rfl, hrng.1, by rw [hS]; trivial, hX⟩, ?_⟩ ad s.heap [] 0 0 _ ⟨hrng, Int.le_refl _, fun _ _ => rfl, hP, hD, va_S.rf⟩ (fun v hv => by cases hv) (fun v hv => hoks v (hmem v hv)) hl (Nat.le_of_eq (Nat.zero_add _)) (Nat.le_of_eq (Nat.zero_add _))
  intro r ρ' h' ad' H locs cells slots lc pc hq hrt hR hokr hc hs
  obtain ⟨r1, r2, r3, r4, r5, r6⟩ := hR
  rcases hrt with ⟨rfl, e1, e2⟩ | ⟨v, rfl, e1, e2⟩ | ⟨v, rfl, hv, e1, e2⟩ | ⟨v, rfl, e1, e2⟩
  · refine W.widen hc hs ?_
    exact W.vret hx hb (hr.trans e1) (fun t ht hW => ⟨⟨none, ρ', h', ad', rfl, hq, hokr, r1, r2, r3, by rw [ht]; exact r4, r5⟩, r6.F ht⟩) r6.2.2 e2
  · refine W.widen hc hs ?_
    exact W.iret hx hb (hr.trans e1) (fun t ht hW => ⟨⟨some (am_I v), ρ', h', ad', rfl, hq, hokr, r1, r2, r3, by rw [ht]; exact r4, r5⟩, r6.F ht⟩) r6.2.2 e2
  · refine W.widen hc hs ?_
    refine W.zret hx hb (hr.trans e1) ?_ (fun t ht hW => ⟨⟨some (am_I v), ρ', h', ad', rfl, hq, hokr, r1, r2, r3, by rw [ht]; exact r4, r5⟩, r6.F ht⟩) r6.2.2 e2
    rcases hv with rfl | rfl <;> rfl
  · refine W.widen hc hs ?_
    exact W.lret hx hb (hr.trans e1) (fun t ht hW => ⟨⟨some (am_L v), ρ', h', ad', rfl, hq, hokr, r1, r2, r3, by rw [ht]; exact r4, r5⟩, r6.F ht⟩) r6.2.2 e2
theorem am_CT_mono {M : am_M} {mc ms : Nat} {as : List am_V} {ρ h : am_H} {Q Q' : am_Q} (hc : am_CT M mc ms as ρ h Q) (hq : ∀ r ρ' h', Q r ρ' h' → Q' r ρ' h') : am_CT M mc ms as ρ h Q' := by
  intro l D cI cS ad sz hrng hoks
  have hM := hc l D cI cS ad sz hrng hoks
  intro p e ha hcc hk s m args below h1 h2 h3 h4
  obtain ⟨k, o, a1, a2, a3, ⟨⟨r, ρ', h', ad', b1, b2, b3⟩, b4⟩, b5⟩ := hM p e ha hcc hk s m args below h1 h2 h3 h4
  exact ⟨k, o, a1, a2, a3, ⟨⟨r, ρ', h', ad', b1, hq _ _ _ b2, b3⟩, b4⟩, b5⟩
section AMR
variable {M M' : am_M} {bc bs mc ms pc pc' tgt idx n : Nat} {ls ls' : List (Option am_V)} {st rest : List am_V} {ρ h : am_H} {Q Q' : am_Q}
/-- behind a call -/
theorem am_back {p : Program} {l : Launch} {e : Env} {R : Room} {s : State} {m : MethodId} {args : Array Value} {below : List Frame} {meth : Method} {c : Code} {Z : State → Prop} {D : va_G} {cI cS : ClassId} {A : Nat → Prop} {n0 : Int} {ad0 ad : Int → Nat} {H : Heap} {locs : List Loc} {cells slots : Nat} {lc : Array Slot} {stc : List Value}
    (Cx : am_Cx M Q p l e R s m args below meth c Z D cI cS A n0 ad0) (rl : am_Rl D cI cS A s n0 ad0 ad ρ h H locs) (os : ∀ v ∈ rest, am_okV (ρ 0 0) v) (ol : ∀ v, some v ∈ ls → am_okV (ρ 0 0) v) (hl : lv_has lc M.2.2.1 (am_lv ad 0 ls)) (hcs : cells + (mc + bc) ≤ R.cells) (hss : slots + (ms + bs) ≤ R.slots)
    (hr : va_Run p l e R s m args below meth c H locs cells slots mc ms (F0 m pc lc stc) (rest.map (am_c ad)) (fun st oc t => (∃ (r : Option am_V) (ρ' h' : am_H) (ad' : Int → Nat), oc = .returned (r.map (am_c ad')) ∧ Q' r ρ' h' ∧ (∀ v, r = some v → am_okV (ρ' 0 0) v) ∧ am_rng ρ' h' ∧ ρ 0 0 ≤ ρ' 0 0 ∧ (∀ x, x < ρ 0 0 → ad' x = ad x) ∧ va_P D vwCl (am_ws cI cS ad' ρ' h') t.heap ∧ va_D (va_A (am_ws cI cS ad ρ h) H.size) (am_ws cI cS ad' ρ' h')) ∧ va_F (va_A (am_ws cI cS ad ρ h) H.size) st t) (va_A (am_ws cI cS ad ρ h) H.size))
    (kk : ∀ r ρ' h', Q' r ρ' h' → am_rng ρ' h' → ρ 0 0 ≤ ρ' 0 0 → am_WP M bc bs (pc + 3) ls (r.toList ++ rest) ρ' h' Q) : W p l e R s m args below meth c H locs cells slots Z (F0 m pc lc stc) := by
  have hsub := am_A_sub rl.2.2.2.2.1 rl.2.2.2.2.2 Cx.1.2.2.2.2.1
  intro T hT X
  obtain ⟨v, st₀, t, T', L, h0, X', hL, e1, e2, ⟨⟨r, ρ', h', ad', hv, hq, hok, hrng, hle, hag, hP', hD'⟩, hF⟩, st⟩ := hr T hT X
  have hv' : v = r.map (am_c ad') := by cases hv; rfl
  subst hv'
  obtain ⟨hz, hk⟩ := hF
  rw [h0] at hz hk
  have hS' : va_S A s.heap T'.heap (locs ++ L) := ⟨Nat.le_trans rl.2.2.2.2.2.1 (by rw [e1]; exact hz), fun q h1 h2 => by rw [e1, hk q (Nat.lt_of_lt_of_le h1 rl.2.2.2.2.2.1) (fun z => h2 (hsub q z))]; exact rl.2.2.2.2.2.2.1 q h1 h2, fun q hq => by
    rcases List.mem_append.mp hq with z | z
    · exact rl.2.2.2.2.2.2.2 q z
    · exact hsub _ (hL q z)⟩
  have os' : ∀ v ∈ r.toList ++ rest, am_okV (ρ' 0 0) v := fun v hv => by
    rcases List.mem_append.mp hv with z | z
    · exact hok v (Option.mem_toList.mp z)
    · exact am_okV_mono hle (os v z)
  obtain ⟨t2, a1, b1⟩ := kk r ρ' h' hq hrng hle p l e R s m args below meth c Z D cI cS A n0 ad0 Cx ad' T'.heap (locs ++ L) (cells + mc) (slots + ms) lc ⟨hrng, Int.le_trans rl.2.1 hle, fun x hx => (hag x (Int.lt_of_lt_of_le hx rl.2.1)).trans (rl.2.2.1 x hx), by rw [e1]; exact hP', hD'.weaken (fun k q _ z => hsub _ z), hS'⟩ os' (fun v hv => am_okV_mono hle (ol v hv)) (by rw [am_lv_ext (ρ 0 0) hag ls 0 ol]; exact hl) (by omega) (by omega) T' rfl X'
  refine ⟨t2, st t2 ?_, b1⟩
  rw [List.map_append, am_st_ext hag os] at a1
  have e3 : (r.map (am_c ad')).toList = r.toList.map (am_c ad') := by cases r <;> rfl
  rw [e3]
  exact a1
theorem am_room {ad : Int → Nat} (h : rest.length ≤ 4) : ((rest.map (am_c ad)).map fun v => v.category).sum ≤ 8 := by
  have hc : ∀ v : am_V, (am_c ad v).category ≤ 2 := fun v => by
    rcases v with x | x | x
    · exact Nat.le_of_ble_eq_true rfl
    · exact Nat.le_of_ble_eq_true rfl
    · exact Nat.le_of_ble_eq_true rfl
  have key : ∀ l : List am_V, ((l.map (am_c ad)).map fun v => v.category).sum ≤ 2 * l.length := by
    intro l
    induction l with
    | nil => simp
    | cons a t ih => have := hc a; simp only [List.map_cons, List.sum_cons, List.length_cons]; omega
  have := key rest
  omega
theorem am_callV {as : List am_V} {b : Int} {ci N : Nat} {C : String} {T : u_T} (hd : decode M.2.1 pc = .ok (.invokevirtual idx, 3)) (hp : pc + 3 = pc') (hok : am_ok M' n) (lk : am_T (.methodLink M.1.cls idx M'.1)) (wi : am_T (.instanceMethod M'.1)) (ws : am_T (.selects C M'.1 M'.1)) (hc : vwCl[ci]? = some (C, T, N)) (hlev : M'.2.2.2.2.1 + 1 ≤ M.2.2.2.2.1) (hb : am_in ρ b ci) (hn : as.length = n) (hrest : rest.length ≤ 4) (hst : st = as.reverse ++ am_R b :: rest)
    (ct : am_CT M' mc ms (am_R b :: as) ρ h Q') (kk : ∀ r ρ' h', Q' r ρ' h' → am_rng ρ' h' → ρ 0 0 ≤ ρ' 0 0 → am_WP M bc bs pc' ls (r.toList ++ rest) ρ' h' Q) : am_WP M (mc + bc) (ms + bs) pc ls st ρ h Q := by
  subst hp
  subst hst
  intro p l e R s m args below meth c Z D cI cS A n0 ad0 Cx ad H locs cells slots lc rl os ol hl hcs hss
  obtain ⟨w1, w2, w3, w4, w5, w6⟩ := id hok
  have hR : R.frames = M.2.2.2.2.1 := Cx.1.2.2.2.2.2.1
  have hL : R.locals = 36 * M.2.2.2.2.1 := Cx.1.2.2.2.2.2.2.1
  have hoka : ∀ v ∈ am_R b :: as, am_okV (ρ 0 0) v := fun v hv => os v (by
    rcases List.mem_cons.mp hv with rfl | z
    · exact List.mem_append_right _ List.mem_cons_self
    · exact List.mem_append_left _ (List.mem_reverse.mpr z))
  have he := am_ws_get (cI := cI) (cS := cS) (ad := ad) (h := h) hb.1 hb.2.1
  rw [am_E_obj hb.2.2 (am_cls hc).2.2.2.2] at he
  have hM := ct l D cI cS ad H.size rl.1 hoka
  have cb := callB_of (R := R) (s := s) (args := args) (own := M.1.cls) (index := idx) (y := M'.1) (bytes := M'.2.1) (maxL := M'.2.2.1) (ret := M'.2.2.2.1) (ws := am_W M') (ws' := am_G) (rm := { frames := M'.2.2.2.2.1, cells := mc, slots := ms, locals := 36 * M'.2.2.2.2.1 }) (mc := mc) (ms := ms) n (am_hts Cx.1.2.1) (am_W_good M' hok) rfl rfl rfl (Cx.1.2.1 _ w2) (Cx.1.2.1 _ lk) ⟨w3.1, w3.2, w4⟩ ⟨by rw [hR]; exact hlev, by rw [hL]; show 8 + (M'.2.2.1 + 11) + 36 * M'.2.2.2.2.1 ≤ _; omega⟩
  have hr := va_runV (As := as.map (am_c ad)) (rest := rest.map (am_c ad)) (b := ad b) (g := F0 m pc lc ((as.reverse ++ am_R b :: rest).map (am_c ad))) (e := e) (below := below) (meth := meth) (locs := locs) (cells := cells) (slots := slots) (Ts := am_G) ⟨Cx.1.1.1, Cx.1.1.2.1, Cx.1.1.2.2.1, Cx.1.1.2.2.2, am_hts Cx.1.2.1⟩ hM ⟨cb, Cx.1.2.1 _ wi, Cx.1.2.1 _ ws⟩
    ⟨am_blind, va_recv Cx.1.2.2.2.1 rl.2.2.2.1 hc he, fun U hU hW => ⟨rfl, by rw [hU], by rw [hU]; exact rl.2.2.2.1, va_K.moved hW.alike Cx.1.2.2.2.1, rl.2.2.2.2.1.weaken (fun _ _ _ _ => trivial), am_X.warm hW Cx.1.2.2.2.2.2.2.2.2.2⟩⟩ rfl (by simpa using hn) hl.1 (by simp [List.map_reverse, am_c_R]) (lv_room (am_room hrest)) hd ⟨by omega, by omega⟩
  exact am_back Cx rl (fun v hv => os v (List.mem_append_right _ (List.mem_cons_of_mem _ hv))) ol hl hcs hss hr kk
theorem am_callS {as : List am_V} (hd : decode M.2.1 pc = .ok (.invokestatic idx, 3)) (hp : pc + 3 = pc') (hok : am_ok M' n) (lk : am_T (.methodLink M.1.cls idx M'.1)) (wi : am_T (.static M'.1)) (hlev : M'.2.2.2.2.1 + 1 ≤ M.2.2.2.2.1) (hn : as.length = n) (hrest : rest.length ≤ 4) (hst : st = as.reverse ++ rest)
    (ct : am_CT M' mc ms as ρ h Q') (kk : ∀ r ρ' h', Q' r ρ' h' → am_rng ρ' h' → ρ 0 0 ≤ ρ' 0 0 → am_WP M bc bs pc' ls (r.toList ++ rest) ρ' h' Q) : am_WP M (mc + bc) (ms + bs) pc ls st ρ h Q := by
  subst hp
  subst hst
  intro p l e R s m args below meth c Z D cI cS A n0 ad0 Cx ad H locs cells slots lc rl os ol hl hcs hss
  obtain ⟨w1, w2, w3, w4, w5, w6⟩ := id hok
  have hR : R.frames = M.2.2.2.2.1 := Cx.1.2.2.2.2.2.1
  have hL : R.locals = 36 * M.2.2.2.2.1 := Cx.1.2.2.2.2.2.2.1
  have hoka : ∀ v ∈ as, am_okV (ρ 0 0) v := fun v hv => os v (List.mem_append_left _ (List.mem_reverse.mpr hv))
  have hM := ct l D cI cS ad H.size rl.1 hoka
  have cb := callB_of (R := R) (s := s) (args := args) (own := M.1.cls) (index := idx) (y := M'.1) (bytes := M'.2.1) (maxL := M'.2.2.1) (ret := M'.2.2.2.1) (ws := am_W M') (ws' := am_G) (rm := { frames := M'.2.2.2.2.1, cells := mc, slots := ms, locals := 36 * M'.2.2.2.2.1 }) (mc := mc) (ms := ms) n (am_hts Cx.1.2.1) (am_W_good M' hok) rfl rfl rfl (Cx.1.2.1 _ w2) (Cx.1.2.1 _ lk) ⟨w3.1, w3.2, w4⟩ ⟨by rw [hR]; exact hlev, by rw [hL]; show 8 + (M'.2.2.1 + 11) + 36 * M'.2.2.2.2.1 ≤ _; omega⟩
  have hr := va_runS (As := as.map (am_c ad)) (rest := rest.map (am_c ad)) (g := F0 m pc lc ((as.reverse ++ rest).map (am_c ad))) (e := e) (below := below) (meth := meth) (locs := locs) (cells := cells) (slots := slots) (Ts := am_G) ⟨Cx.1.1.1, Cx.1.1.2.1, Cx.1.1.2.2.1, Cx.1.1.2.2.2, am_hts Cx.1.2.1⟩ hM ⟨cb, Cx.1.2.1 _ wi⟩
    ⟨am_blind, fun U hU hW => ⟨rfl, by rw [hU], by rw [hU]; exact rl.2.2.2.1, va_K.moved hW.alike Cx.1.2.2.2.1, rl.2.2.2.2.1.weaken (fun _ _ _ _ => trivial), am_X.warm hW Cx.1.2.2.2.2.2.2.2.2.2⟩⟩ rfl (by simpa using hn) hl.1 (by simp [List.map_reverse]) (lv_room (am_room hrest)) hd ⟨by omega, by omega⟩
  exact am_back Cx rl (fun v hv => os v (List.mem_append_right _ hv)) ol hl hcs hss hr kk
theorem am_callI {b : Int} (hd : decode M.2.1 pc = .ok (.invokespecial idx, 3)) (hp : pc + 3 = pc') (hok : am_ok M' 0) (hret : M'.2.2.2.1 = none) (lk : am_T (.methodLink M.1.cls idx M'.1)) (wi : am_T (.instanceMethod M'.1)) (hy : M'.1.name = "<init>") (hlev : M'.2.2.2.2.1 + 1 ≤ M.2.2.2.2.1) (hrest : rest.length ≤ 4)
    (ct : am_CT M' mc ms [am_R b] ρ h Q') (kk : ∀ r ρ' h', Q' r ρ' h' → am_rng ρ' h' → ρ 0 0 ≤ ρ' 0 0 → am_WP M bc bs pc' ls (r.toList ++ rest) ρ' h' Q) : am_WP M (mc + bc) (ms + bs) pc ls (am_R b :: rest) ρ h Q := by
  subst hp
  intro p l e R s m args below meth c Z D cI cS A n0 ad0 Cx ad H locs cells slots lc rl os ol hl hcs hss
  obtain ⟨w1, w2, w3, w4, w5, w6⟩ := id hok
  have hR : R.frames = M.2.2.2.2.1 := Cx.1.2.2.2.2.2.1
  have hL : R.locals = 36 * M.2.2.2.2.1 := Cx.1.2.2.2.2.2.2.1
  have hoka : ∀ v ∈ [am_R b], am_okV (ρ 0 0) v := fun v hv => os v (by rw [List.mem_singleton.mp hv]; exact List.mem_cons_self)
  have hM := ct l D cI cS ad H.size rl.1 hoka
  have cb := callB_of (R := R) (s := s) (args := args) (own := M.1.cls) (index := idx) (y := M'.1) (bytes := M'.2.1) (maxL := M'.2.2.1) (ret := none) (ws := am_W M') (ws' := am_G) (rm := { frames := M'.2.2.2.2.1, cells := mc, slots := ms, locals := 36 * M'.2.2.2.2.1 }) (mc := mc) (ms := ms) 0 (am_hts Cx.1.2.1) (am_W_good M' hok) (by unfold am_W; rw [hret]) rfl rfl (Cx.1.2.1 _ w2) (Cx.1.2.1 _ lk) ⟨w3.1, w3.2, w4⟩ ⟨by rw [hR]; exact hlev, by rw [hL]; show 8 + (M'.2.2.1 + 11) + 36 * M'.2.2.2.2.1 ≤ _; omega⟩
  have hr := va_runI (As := []) (rest := rest.map (am_c ad)) (b := ad b) (g := F0 m pc lc ((am_R b :: rest).map (am_c ad))) (e := e) (below := below) (meth := meth) (locs := locs) (cells := cells) (slots := slots) (Ts := am_G) ⟨Cx.1.1.1, Cx.1.1.2.1, Cx.1.1.2.2.1, Cx.1.1.2.2.2, am_hts Cx.1.2.1⟩ hM ⟨cb, hy, Cx.1.2.1 _ wi⟩
    ⟨am_blind, fun U hU hW => ⟨rfl, by rw [hU], by rw [hU]; exact rl.2.2.2.1, va_K.moved hW.alike Cx.1.2.2.2.1, rl.2.2.2.2.1.weaken (fun _ _ _ _ => trivial), am_X.warm hW Cx.1.2.2.2.2.2.2.2.2.2⟩⟩ rfl rfl hl.1 (by simp [am_c_R]) (lv_room (am_room hrest)) hd ⟨by omega, by omega⟩
  exact am_back Cx rl (am_okt os) ol hl hcs hss hr kk
theorem am_callIN {b : Int} {host : String} (hd : decode M.2.1 pc = .ok (.invokespecial idx, 3)) (hp : pc + 3 = pc') (hok : am_ok M' 0) (hret : M'.2.2.2.1 = none) (lk : .methodLinkNest M.1.cls idx M'.1 host ∈ am_nest) (wi : am_T (.instanceMethod M'.1)) (hy : M'.1.name = "<init>") (hlev : M'.2.2.2.2.1 + 1 ≤ M.2.2.2.2.1) (hrest : rest.length ≤ 4)
    (ct : am_CT M' mc ms [am_R b] ρ h Q') (kk : ∀ r ρ' h', Q' r ρ' h' → am_rng ρ' h' → ρ 0 0 ≤ ρ' 0 0 → am_WP M bc bs pc' ls (r.toList ++ rest) ρ' h' Q) : am_WP M (mc + bc) (ms + bs) pc ls (am_R b :: rest) ρ h Q := by
  subst hp
  intro p l e R s m args below meth c Z D cI cS A n0 ad0 Cx ad H locs cells slots lc rl os ol hl hcs hss
  obtain ⟨w1, w2, w3, w4, w5, w6⟩ := id hok
  have hR : R.frames = M.2.2.2.2.1 := Cx.1.2.2.2.2.2.1
  have hL : R.locals = 36 * M.2.2.2.2.1 := Cx.1.2.2.2.2.2.2.1
  have hoka : ∀ v ∈ [am_R b], am_okV (ρ 0 0) v := fun v hv => os v (by rw [List.mem_singleton.mp hv]; exact List.mem_cons_self)
  have hM := ct l D cI cS ad H.size rl.1 hoka
  have cb := va_cnB (R := R) (s := s) (args := args) (own := M.1.cls) (host := host) (index := idx) (y := M'.1) (bytes := M'.2.1) (maxL := M'.2.2.1) (ret := none) (Ts := am_G) (ws := am_W M') (ws' := am_G) (rm := { frames := M'.2.2.2.2.1, cells := mc, slots := ms, locals := 36 * M'.2.2.2.2.1 }) (mc := mc) (ms := ms) 0 (am_hts Cx.1.2.1) (am_W_good M' hok) (by unfold am_W; rw [hret]) rfl rfl (Cx.1.2.2.2.2.2.2.2.2.2.1 _ lk) (Cx.1.2.1 _ w2) ⟨w3.1, w3.2, w4⟩ ⟨by rw [hR]; exact hlev, by rw [hL]; show 8 + (M'.2.2.1 + 11) + 36 * M'.2.2.2.2.1 ≤ _; omega⟩
  have hr := va_runIN (As := []) (rest := rest.map (am_c ad)) (b := ad b) (g := F0 m pc lc ((am_R b :: rest).map (am_c ad))) (e := e) (below := below) (meth := meth) (locs := locs) (cells := cells) (slots := slots) (Ts := am_G) ⟨Cx.1.1.1, Cx.1.1.2.1, Cx.1.1.2.2.1, Cx.1.1.2.2.2, am_hts Cx.1.2.1⟩ hM ⟨cb, hy, Cx.1.2.1 _ wi⟩
    ⟨am_blind, fun U hU hW => ⟨rfl, by rw [hU], by rw [hU]; exact rl.2.2.2.1, va_K.moved hW.alike Cx.1.2.2.2.1, rl.2.2.2.2.1.weaken (fun _ _ _ _ => trivial), am_X.warm hW Cx.1.2.2.2.2.2.2.2.2.2⟩⟩ rfl rfl hl.1 (by simp [am_c_R]) (lv_room (am_room hrest)) hd ⟨by omega, by omega⟩
  exact am_back Cx rl (am_okt os) ol hl hcs hss hr kk
end AMR
end
