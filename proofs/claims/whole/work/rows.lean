section
/-- a private method of a class that the tables say can be made, by its rows of tables_1 -/
def lw_okq (q : MethodName × Nat) : Prop := (q.1.cls ≠ "java/lang/invoke/MethodHandle" ∧ q.1.cls ≠ "java/lang/invoke/VarHandle") ∧ Cond.instantiable q.1.cls q.2 ∈ tables_1 ∧ Cond.privateMethod q.1 ∈ tables_1 ∧ Cond.instanceMethod q.1 ∈ tables_1
theorem lw_p0 : lw_okq (⟨"LampRanks$History", "dropOldest", "()V"⟩, 2) := ⟨⟨by decide +kernel, by decide +kernel⟩, List.mem_of_getElem? (i := 161) (by decide +kernel), List.mem_of_getElem? (i := 270) (by decide +kernel), List.mem_of_getElem? (i := 271) (by decide +kernel)⟩
theorem lw_p1 : lw_okq (⟨"LampRanks$Board", "linesBelow", "(I)I"⟩, 12) := ⟨⟨by decide +kernel, by decide +kernel⟩, List.mem_of_getElem? (i := 21) (by decide +kernel), List.mem_of_getElem? (i := 315) (by decide +kernel), List.mem_of_getElem? (i := 316) (by decide +kernel)⟩
theorem lw_p2 : lw_okq (⟨"LampRanks$Board", "lowestRank", "()I"⟩, 12) := ⟨⟨by decide +kernel, by decide +kernel⟩, List.mem_of_getElem? (i := 21) (by decide +kernel), List.mem_of_getElem? (i := 343) (by decide +kernel), List.mem_of_getElem? (i := 344) (by decide +kernel)⟩
theorem lw_p3 : lw_okq (⟨"LampRanks$Board", "isReady", "(II)Z"⟩, 12) := ⟨⟨by decide +kernel, by decide +kernel⟩, List.mem_of_getElem? (i := 21) (by decide +kernel), List.mem_of_getElem? (i := 354) (by decide +kernel), List.mem_of_getElem? (i := 355) (by decide +kernel)⟩
theorem lw_p4 : lw_okq (⟨"LampRanks$Board", "isMasked", "(I)Z"⟩, 12) := ⟨⟨by decide +kernel, by decide +kernel⟩, List.mem_of_getElem? (i := 21) (by decide +kernel), List.mem_of_getElem? (i := 358) (by decide +kernel), List.mem_of_getElem? (i := 359) (by decide +kernel)⟩
theorem lw_p5 : lw_okq (⟨"LampRanks$Board", "turnInputs", "(I)V"⟩, 12) := ⟨⟨by decide +kernel, by decide +kernel⟩, List.mem_of_getElem? (i := 21) (by decide +kernel), List.mem_of_getElem? (i := 410) (by decide +kernel), List.mem_of_getElem? (i := 411) (by decide +kernel)⟩
theorem lw_p6 : lw_okq (⟨"LampRanks$Board", "queueAcknowledge", "(I)V"⟩, 12) := ⟨⟨by decide +kernel, by decide +kernel⟩, List.mem_of_getElem? (i := 21) (by decide +kernel), List.mem_of_getElem? (i := 432) (by decide +kernel), List.mem_of_getElem? (i := 433) (by decide +kernel)⟩
theorem lw_p7 : lw_okq (⟨"LampRanks$Board", "acknowledgeDue", "()I"⟩, 12) := ⟨⟨by decide +kernel, by decide +kernel⟩, List.mem_of_getElem? (i := 21) (by decide +kernel), List.mem_of_getElem? (i := 436) (by decide +kernel), List.mem_of_getElem? (i := 437) (by decide +kernel)⟩
theorem lw_p8 : lw_okq (⟨"LampRanks$Board", "allEdges", "()I"⟩, 12) := ⟨⟨by decide +kernel, by decide +kernel⟩, List.mem_of_getElem? (i := 21) (by decide +kernel), List.mem_of_getElem? (i := 505) (by decide +kernel), List.mem_of_getElem? (i := 506) (by decide +kernel)⟩
theorem lw_p9 : lw_okq (⟨"LampRanks$Board", "allLost", "()I"⟩, 12) := ⟨⟨by decide +kernel, by decide +kernel⟩, List.mem_of_getElem? (i := 21) (by decide +kernel), List.mem_of_getElem? (i := 509) (by decide +kernel), List.mem_of_getElem? (i := 510) (by decide +kernel)⟩
theorem lw_p10 : lw_okq (⟨"LampRanks$Board", "edgeLineSet", "()I"⟩, 12) := ⟨⟨by decide +kernel, by decide +kernel⟩, List.mem_of_getElem? (i := 21) (by decide +kernel), List.mem_of_getElem? (i := 513) (by decide +kernel), List.mem_of_getElem? (i := 514) (by decide +kernel)⟩
theorem lw_p11 : lw_okq (⟨"LampRanks$Board", "allTaken", "(Z)I"⟩, 12) := ⟨⟨by decide +kernel, by decide +kernel⟩, List.mem_of_getElem? (i := 21) (by decide +kernel), List.mem_of_getElem? (i := 517) (by decide +kernel), List.mem_of_getElem? (i := 518) (by decide +kernel)⟩
theorem lw_p12 : lw_okq (⟨"LampRanks$EventText", "readEvent", "()Z"⟩, 7) := ⟨⟨by decide +kernel, by decide +kernel⟩, List.mem_of_getElem? (i := 178) (by decide +kernel), List.mem_of_getElem? (i := 554) (by decide +kernel), List.mem_of_getElem? (i := 555) (by decide +kernel)⟩
theorem lw_p13 : lw_okq (⟨"LampRanks$EventText", "signAt", "(I)C"⟩, 7) := ⟨⟨by decide +kernel, by decide +kernel⟩, List.mem_of_getElem? (i := 178) (by decide +kernel), List.mem_of_getElem? (i := 558) (by decide +kernel), List.mem_of_getElem? (i := 559) (by decide +kernel)⟩
theorem lw_p14 : lw_okq (⟨"LampRanks$EventText", "readNumber", "()I"⟩, 7) := ⟨⟨by decide +kernel, by decide +kernel⟩, List.mem_of_getElem? (i := 178) (by decide +kernel), List.mem_of_getElem? (i := 562) (by decide +kernel), List.mem_of_getElem? (i := 563) (by decide +kernel)⟩
theorem lw_p15 : lw_okq (⟨"LampRanks$EventText", "digitAt", "(I)I"⟩, 7) := ⟨⟨by decide +kernel, by decide +kernel⟩, List.mem_of_getElem? (i := 178) (by decide +kernel), List.mem_of_getElem? (i := 566) (by decide +kernel), List.mem_of_getElem? (i := 567) (by decide +kernel)⟩
def lw_privs_1 : List (MethodName × Nat) := [(⟨"LampRanks$History", "dropOldest", "()V"⟩, 2), (⟨"LampRanks$Board", "linesBelow", "(I)I"⟩, 12), (⟨"LampRanks$Board", "lowestRank", "()I"⟩, 12), (⟨"LampRanks$Board", "isReady", "(II)Z"⟩, 12), (⟨"LampRanks$Board", "isMasked", "(I)Z"⟩, 12), (⟨"LampRanks$Board", "turnInputs", "(I)V"⟩, 12), (⟨"LampRanks$Board", "queueAcknowledge", "(I)V"⟩, 12), (⟨"LampRanks$Board", "acknowledgeDue", "()I"⟩, 12), (⟨"LampRanks$Board", "allEdges", "()I"⟩, 12), (⟨"LampRanks$Board", "allLost", "()I"⟩, 12), (⟨"LampRanks$Board", "edgeLineSet", "()I"⟩, 12), (⟨"LampRanks$Board", "allTaken", "(Z)I"⟩, 12), (⟨"LampRanks$EventText", "readEvent", "()Z"⟩, 7), (⟨"LampRanks$EventText", "signAt", "(I)C"⟩, 7), (⟨"LampRanks$EventText", "readNumber", "()I"⟩, 7), (⟨"LampRanks$EventText", "digitAt", "(I)I"⟩, 7)]
theorem lw_r1 : ∀ q ∈ lw_privs_1, lw_okq q := List.forall_mem_cons.mpr ⟨lw_p0, List.forall_mem_cons.mpr ⟨lw_p1, List.forall_mem_cons.mpr ⟨lw_p2, List.forall_mem_cons.mpr ⟨lw_p3, List.forall_mem_cons.mpr ⟨lw_p4, List.forall_mem_cons.mpr ⟨lw_p5, List.forall_mem_cons.mpr ⟨lw_p6, List.forall_mem_cons.mpr ⟨lw_p7, List.forall_mem_cons.mpr ⟨lw_p8, List.forall_mem_cons.mpr ⟨lw_p9, List.forall_mem_cons.mpr ⟨lw_p10, List.forall_mem_cons.mpr ⟨lw_p11, List.forall_mem_cons.mpr ⟨lw_p12, List.forall_mem_cons.mpr ⟨lw_p13, List.forall_mem_cons.mpr ⟨lw_p14, List.forall_mem_cons.mpr ⟨lw_p15, fun _ h => absurd h List.not_mem_nil⟩⟩⟩⟩⟩⟩⟩⟩⟩⟩⟩⟩⟩⟩⟩⟩
theorem lw_p16 : lw_okq (⟨"LampRanks$EventText", "readSign", "(C)Z"⟩, 7) := ⟨⟨by decide +kernel, by decide +kernel⟩, List.mem_of_getElem? (i := 178) (by decide +kernel), List.mem_of_getElem? (i := 570) (by decide +kernel), List.mem_of_getElem? (i := 571) (by decide +kernel)⟩
theorem lw_p17 : lw_okq (⟨"LampRanks$EventText", "answerOf", "(LLampRanks$Board;)I"⟩, 7) := ⟨⟨by decide +kernel, by decide +kernel⟩, List.mem_of_getElem? (i := 178) (by decide +kernel), List.mem_of_getElem? (i := 574) (by decide +kernel), List.mem_of_getElem? (i := 575) (by decide +kernel)⟩
theorem lw_p18 : lw_okq (⟨"LampRanksModel", "isNode", "(I)Z"⟩, 13) := ⟨⟨by decide +kernel, by decide +kernel⟩, List.mem_of_getElem? (i := 591) (by decide +kernel), List.mem_of_getElem? (i := 641) (by decide +kernel), List.mem_of_getElem? (i := 642) (by decide +kernel)⟩
theorem lw_p19 : lw_okq (⟨"LampRanksModel", "record", "()V"⟩, 13) := ⟨⟨by decide +kernel, by decide +kernel⟩, List.mem_of_getElem? (i := 591) (by decide +kernel), List.mem_of_getElem? (i := 651) (by decide +kernel), List.mem_of_getElem? (i := 652) (by decide +kernel)⟩
theorem lw_p20 : lw_okq (⟨"LampRanksModel", "hang", "(II)V"⟩, 13) := ⟨⟨by decide +kernel, by decide +kernel⟩, List.mem_of_getElem? (i := 591) (by decide +kernel), List.mem_of_getElem? (i := 658) (by decide +kernel), List.mem_of_getElem? (i := 659) (by decide +kernel)⟩
theorem lw_p21 : lw_okq (⟨"LampRanksModel", "isLine", "(I)Z"⟩, 13) := ⟨⟨by decide +kernel, by decide +kernel⟩, List.mem_of_getElem? (i := 591) (by decide +kernel), List.mem_of_getElem? (i := 673) (by decide +kernel), List.mem_of_getElem? (i := 674) (by decide +kernel)⟩
theorem lw_p22 : lw_okq (⟨"LampRanksModel", "linesOf", "(I)I"⟩, 13) := ⟨⟨by decide +kernel, by decide +kernel⟩, List.mem_of_getElem? (i := 591) (by decide +kernel), List.mem_of_getElem? (i := 677) (by decide +kernel), List.mem_of_getElem? (i := 678) (by decide +kernel)⟩
theorem lw_p23 : lw_okq (⟨"LampRanksModel", "isOf", "(II)Z"⟩, 13) := ⟨⟨by decide +kernel, by decide +kernel⟩, List.mem_of_getElem? (i := 591) (by decide +kernel), List.mem_of_getElem? (i := 681) (by decide +kernel), List.mem_of_getElem? (i := 682) (by decide +kernel)⟩
theorem lw_p24 : lw_okq (⟨"LampRanksModel", "isReady", "(I)Z"⟩, 13) := ⟨⟨by decide +kernel, by decide +kernel⟩, List.mem_of_getElem? (i := 591) (by decide +kernel), List.mem_of_getElem? (i := 685) (by decide +kernel), List.mem_of_getElem? (i := 686) (by decide +kernel)⟩
theorem lw_p25 : lw_okq (⟨"LampRanksModel", "isHidden", "(I)Z"⟩, 13) := ⟨⟨by decide +kernel, by decide +kernel⟩, List.mem_of_getElem? (i := 591) (by decide +kernel), List.mem_of_getElem? (i := 689) (by decide +kernel), List.mem_of_getElem? (i := 690) (by decide +kernel)⟩
theorem lw_p26 : lw_okq (⟨"LampRanksModel", "linesBy", "(I)I"⟩, 13) := ⟨⟨by decide +kernel, by decide +kernel⟩, List.mem_of_getElem? (i := 591) (by decide +kernel), List.mem_of_getElem? (i := 700) (by decide +kernel), List.mem_of_getElem? (i := 701) (by decide +kernel)⟩
theorem lw_p27 : lw_okq (⟨"LampRanksModel", "isOnWay", "(II)Z"⟩, 13) := ⟨⟨by decide +kernel, by decide +kernel⟩, List.mem_of_getElem? (i := 591) (by decide +kernel), List.mem_of_getElem? (i := 704) (by decide +kernel), List.mem_of_getElem? (i := 705) (by decide +kernel)⟩
theorem lw_p28 : lw_okq (⟨"LampRanksModel", "litState", "(II)I"⟩, 13) := ⟨⟨by decide +kernel, by decide +kernel⟩, List.mem_of_getElem? (i := 591) (by decide +kernel), List.mem_of_getElem? (i := 720) (by decide +kernel), List.mem_of_getElem? (i := 721) (by decide +kernel)⟩
theorem lw_p29 : lw_okq (⟨"LampRanksModel", "goEdge", "(I)I"⟩, 13) := ⟨⟨by decide +kernel, by decide +kernel⟩, List.mem_of_getElem? (i := 591) (by decide +kernel), List.mem_of_getElem? (i := 736) (by decide +kernel), List.mem_of_getElem? (i := 737) (by decide +kernel)⟩
theorem lw_p30 : lw_okq (⟨"LampRanksModel", "canLevel", "(II)Z"⟩, 13) := ⟨⟨by decide +kernel, by decide +kernel⟩, List.mem_of_getElem? (i := 591) (by decide +kernel), List.mem_of_getElem? (i := 744) (by decide +kernel), List.mem_of_getElem? (i := 745) (by decide +kernel)⟩
theorem lw_p31 : lw_okq (⟨"LampRanksModel", "nextLine", "()I"⟩, 13) := ⟨⟨by decide +kernel, by decide +kernel⟩, List.mem_of_getElem? (i := 591) (by decide +kernel), List.mem_of_getElem? (i := 752) (by decide +kernel), List.mem_of_getElem? (i := 753) (by decide +kernel)⟩
def lw_privs_2 : List (MethodName × Nat) := [(⟨"LampRanks$EventText", "readSign", "(C)Z"⟩, 7), (⟨"LampRanks$EventText", "answerOf", "(LLampRanks$Board;)I"⟩, 7), (⟨"LampRanksModel", "isNode", "(I)Z"⟩, 13), (⟨"LampRanksModel", "record", "()V"⟩, 13), (⟨"LampRanksModel", "hang", "(II)V"⟩, 13), (⟨"LampRanksModel", "isLine", "(I)Z"⟩, 13), (⟨"LampRanksModel", "linesOf", "(I)I"⟩, 13), (⟨"LampRanksModel", "isOf", "(II)Z"⟩, 13), (⟨"LampRanksModel", "isReady", "(I)Z"⟩, 13), (⟨"LampRanksModel", "isHidden", "(I)Z"⟩, 13), (⟨"LampRanksModel", "linesBy", "(I)I"⟩, 13), (⟨"LampRanksModel", "isOnWay", "(II)Z"⟩, 13), (⟨"LampRanksModel", "litState", "(II)I"⟩, 13), (⟨"LampRanksModel", "goEdge", "(I)I"⟩, 13), (⟨"LampRanksModel", "canLevel", "(II)Z"⟩, 13), (⟨"LampRanksModel", "nextLine", "()I"⟩, 13)]
theorem lw_r2 : ∀ q ∈ lw_privs_2, lw_okq q := List.forall_mem_cons.mpr ⟨lw_p16, List.forall_mem_cons.mpr ⟨lw_p17, List.forall_mem_cons.mpr ⟨lw_p18, List.forall_mem_cons.mpr ⟨lw_p19, List.forall_mem_cons.mpr ⟨lw_p20, List.forall_mem_cons.mpr ⟨lw_p21, List.forall_mem_cons.mpr ⟨lw_p22, List.forall_mem_cons.mpr ⟨lw_p23, List.forall_mem_cons.mpr ⟨lw_p24, List.forall_mem_cons.mpr ⟨lw_p25, List.forall_mem_cons.mpr ⟨lw_p26, List.forall_mem_cons.mpr ⟨lw_p27, List.forall_mem_cons.mpr ⟨lw_p28, List.forall_mem_cons.mpr ⟨lw_p29, List.forall_mem_cons.mpr ⟨lw_p30, List.forall_mem_cons.mpr ⟨lw_p31, fun _ h => absurd h List.not_mem_nil⟩⟩⟩⟩⟩⟩⟩⟩⟩⟩⟩⟩⟩⟩⟩⟩
theorem lw_p32 : lw_okq (⟨"LampRanksModel", "layOrder", "()V"⟩, 13) := ⟨⟨by decide +kernel, by decide +kernel⟩, List.mem_of_getElem? (i := 591) (by decide +kernel), List.mem_of_getElem? (i := 756) (by decide +kernel), List.mem_of_getElem? (i := 757) (by decide +kernel)⟩
theorem lw_p33 : lw_okq (⟨"LampRanksModel", "goTake", "(I)V"⟩, 13) := ⟨⟨by decide +kernel, by decide +kernel⟩, List.mem_of_getElem? (i := 591) (by decide +kernel), List.mem_of_getElem? (i := 760) (by decide +kernel), List.mem_of_getElem? (i := 761) (by decide +kernel)⟩
theorem lw_p34 : lw_okq (⟨"LampRanksModel", "turnWay", "(I)V"⟩, 13) := ⟨⟨by decide +kernel, by decide +kernel⟩, List.mem_of_getElem? (i := 591) (by decide +kernel), List.mem_of_getElem? (i := 764) (by decide +kernel), List.mem_of_getElem? (i := 765) (by decide +kernel)⟩
theorem lw_p35 : lw_okq (⟨"LampRanksModel", "turnBehind", "(II)V"⟩, 13) := ⟨⟨by decide +kernel, by decide +kernel⟩, List.mem_of_getElem? (i := 591) (by decide +kernel), List.mem_of_getElem? (i := 768) (by decide +kernel), List.mem_of_getElem? (i := 769) (by decide +kernel)⟩
theorem lw_p36 : lw_okq (⟨"LampRanksModel", "goDone", "()I"⟩, 13) := ⟨⟨by decide +kernel, by decide +kernel⟩, List.mem_of_getElem? (i := 591) (by decide +kernel), List.mem_of_getElem? (i := 776) (by decide +kernel), List.mem_of_getElem? (i := 777) (by decide +kernel)⟩
theorem lw_p37 : lw_okq (⟨"LampRanksModel", "goTicks", "(I)I"⟩, 13) := ⟨⟨by decide +kernel, by decide +kernel⟩, List.mem_of_getElem? (i := 591) (by decide +kernel), List.mem_of_getElem? (i := 785) (by decide +kernel), List.mem_of_getElem? (i := 786) (by decide +kernel)⟩
theorem lw_p38 : lw_okq (⟨"LampRanksModel", "layAside", "()V"⟩, 13) := ⟨⟨by decide +kernel, by decide +kernel⟩, List.mem_of_getElem? (i := 591) (by decide +kernel), List.mem_of_getElem? (i := 797) (by decide +kernel), List.mem_of_getElem? (i := 798) (by decide +kernel)⟩
theorem lw_p39 : lw_okq (⟨"LampRanksModel", "layBack", "()V"⟩, 13) := ⟨⟨by decide +kernel, by decide +kernel⟩, List.mem_of_getElem? (i := 591) (by decide +kernel), List.mem_of_getElem? (i := 801) (by decide +kernel), List.mem_of_getElem? (i := 802) (by decide +kernel)⟩
theorem lw_p40 : lw_okq (⟨"LampRanksModel", "isAhead", "(II)Z"⟩, 13) := ⟨⟨by decide +kernel, by decide +kernel⟩, List.mem_of_getElem? (i := 591) (by decide +kernel), List.mem_of_getElem? (i := 813) (by decide +kernel), List.mem_of_getElem? (i := 814) (by decide +kernel)⟩
theorem lw_p41 : lw_okq (⟨"LampRanksModel", "litEdges", "()I"⟩, 13) := ⟨⟨by decide +kernel, by decide +kernel⟩, List.mem_of_getElem? (i := 591) (by decide +kernel), List.mem_of_getElem? (i := 825) (by decide +kernel), List.mem_of_getElem? (i := 826) (by decide +kernel)⟩
theorem lw_p42 : lw_okq (⟨"LampRanksModel", "run", "()I"⟩, 13) := ⟨⟨by decide +kernel, by decide +kernel⟩, List.mem_of_getElem? (i := 591) (by decide +kernel), List.mem_of_getElem? (i := 845) (by decide +kernel), List.mem_of_getElem? (i := 846) (by decide +kernel)⟩
theorem lw_p43 : lw_okq (⟨"LampRanksModel", "isForm", "(I)Z"⟩, 13) := ⟨⟨by decide +kernel, by decide +kernel⟩, List.mem_of_getElem? (i := 591) (by decide +kernel), List.mem_of_getElem? (i := 852) (by decide +kernel), List.mem_of_getElem? (i := 853) (by decide +kernel)⟩
theorem lw_p44 : lw_okq (⟨"LampRanksModel", "number", "()I"⟩, 13) := ⟨⟨by decide +kernel, by decide +kernel⟩, List.mem_of_getElem? (i := 591) (by decide +kernel), List.mem_of_getElem? (i := 856) (by decide +kernel), List.mem_of_getElem? (i := 857) (by decide +kernel)⟩
theorem lw_p45 : lw_okq (⟨"LampRanksModel", "sees", "(I)Z"⟩, 13) := ⟨⟨by decide +kernel, by decide +kernel⟩, List.mem_of_getElem? (i := 591) (by decide +kernel), List.mem_of_getElem? (i := 860) (by decide +kernel), List.mem_of_getElem? (i := 861) (by decide +kernel)⟩
theorem lw_p46 : lw_okq (⟨"LampRanksModel", "isRange", "(I)Z"⟩, 13) := ⟨⟨by decide +kernel, by decide +kernel⟩, List.mem_of_getElem? (i := 591) (by decide +kernel), List.mem_of_getElem? (i := 864) (by decide +kernel), List.mem_of_getElem? (i := 865) (by decide +kernel)⟩
theorem lw_p47 : lw_okq (⟨"LampRanksModel", "isPossible", "(I)Z"⟩, 13) := ⟨⟨by decide +kernel, by decide +kernel⟩, List.mem_of_getElem? (i := 591) (by decide +kernel), List.mem_of_getElem? (i := 868) (by decide +kernel), List.mem_of_getElem? (i := 869) (by decide +kernel)⟩
def lw_privs_3 : List (MethodName × Nat) := [(⟨"LampRanksModel", "layOrder", "()V"⟩, 13), (⟨"LampRanksModel", "goTake", "(I)V"⟩, 13), (⟨"LampRanksModel", "turnWay", "(I)V"⟩, 13), (⟨"LampRanksModel", "turnBehind", "(II)V"⟩, 13), (⟨"LampRanksModel", "goDone", "()I"⟩, 13), (⟨"LampRanksModel", "goTicks", "(I)I"⟩, 13), (⟨"LampRanksModel", "layAside", "()V"⟩, 13), (⟨"LampRanksModel", "layBack", "()V"⟩, 13), (⟨"LampRanksModel", "isAhead", "(II)Z"⟩, 13), (⟨"LampRanksModel", "litEdges", "()I"⟩, 13), (⟨"LampRanksModel", "run", "()I"⟩, 13), (⟨"LampRanksModel", "isForm", "(I)Z"⟩, 13), (⟨"LampRanksModel", "number", "()I"⟩, 13), (⟨"LampRanksModel", "sees", "(I)Z"⟩, 13), (⟨"LampRanksModel", "isRange", "(I)Z"⟩, 13), (⟨"LampRanksModel", "isPossible", "(I)Z"⟩, 13)]
theorem lw_r3 : ∀ q ∈ lw_privs_3, lw_okq q := List.forall_mem_cons.mpr ⟨lw_p32, List.forall_mem_cons.mpr ⟨lw_p33, List.forall_mem_cons.mpr ⟨lw_p34, List.forall_mem_cons.mpr ⟨lw_p35, List.forall_mem_cons.mpr ⟨lw_p36, List.forall_mem_cons.mpr ⟨lw_p37, List.forall_mem_cons.mpr ⟨lw_p38, List.forall_mem_cons.mpr ⟨lw_p39, List.forall_mem_cons.mpr ⟨lw_p40, List.forall_mem_cons.mpr ⟨lw_p41, List.forall_mem_cons.mpr ⟨lw_p42, List.forall_mem_cons.mpr ⟨lw_p43, List.forall_mem_cons.mpr ⟨lw_p44, List.forall_mem_cons.mpr ⟨lw_p45, List.forall_mem_cons.mpr ⟨lw_p46, List.forall_mem_cons.mpr ⟨lw_p47, fun _ h => absurd h List.not_mem_nil⟩⟩⟩⟩⟩⟩⟩⟩⟩⟩⟩⟩⟩⟩⟩⟩
theorem lw_p48 : lw_okq (⟨"LampRanksModel", "goEvent", "(I)V"⟩, 13) := ⟨⟨by decide +kernel, by decide +kernel⟩, List.mem_of_getElem? (i := 591) (by decide +kernel), List.mem_of_getElem? (i := 872) (by decide +kernel), List.mem_of_getElem? (i := 873) (by decide +kernel)⟩
def lw_privs_4 : List (MethodName × Nat) := [(⟨"LampRanksModel", "goEvent", "(I)V"⟩, 13)]
theorem lw_r4 : ∀ q ∈ lw_privs_4, lw_okq q := List.forall_mem_cons.mpr ⟨lw_p48, fun _ h => absurd h List.not_mem_nil⟩
def lw_privs : List (MethodName × Nat) := lw_privs_1 ++ (lw_privs_2 ++ (lw_privs_3 ++ (lw_privs_4)))
def lw_tbl : List Cond := k2_sels lw_privs ++ tables_1
theorem lw_privs_ok : ∀ q ∈ lw_privs, lw_okq q := by
  show ∀ q ∈ lw_privs_1 ++ (lw_privs_2 ++ (lw_privs_3 ++ (lw_privs_4))), lw_okq q
  exact List.forall_mem_append.mpr ⟨lw_r1, List.forall_mem_append.mpr ⟨lw_r2, List.forall_mem_append.mpr ⟨lw_r3, lw_r4⟩⟩⟩
def RX0 : String := "LampRanks$Board"
def TX0 : u_T := fun k => match k with
  | 0 => ("LampRanks$Board", "nodes", "[LLampRanks$Node;", true)
  | 1 => ("LampRanks$Board", "lines", "[LLampRanks$Line;", true)
  | 2 => ("LampRanks$Board", "nodeCount", "I", false)
  | 3 => ("LampRanks$Board", "lineCount", "I", false)
  | 4 => ("LampRanks$Board", "maskedNodes", "I", false)
  | 5 => ("LampRanks$Board", "time", "I", false)
  | 6 => ("LampRanks$Board", "threshold", "I", false)
  | 7 => ("LampRanks$Board", "late", "I", false)
  | 8 => ("LampRanks$Board", "acknowledges", "I", false)
  | 9 => ("LampRanks$Board", "service", "LLampRanks$Row;", true)
  | 10 => ("LampRanks$Board", "waiting", "LLampRanks$Row;", true)
  | _ => ("LampRanks$Board", "walked", "[I", true)
def tyX0 : Nat → FieldType := fun k => match k with
  | 0 => .array (.object "LampRanks$Node")
  | 1 => .array (.object "LampRanks$Line")
  | 2 => .int
  | 3 => .int
  | 4 => .int
  | 5 => .int
  | 6 => .int
  | 7 => .int
  | 8 => .int
  | 9 => .object "LampRanks$Row"
  | 10 => .object "LampRanks$Row"
  | _ => .array .int
abbrev wsX00 : List Cond := u_ws RX0 TX0 12
theorem nmX0 : ∀ a, a < 12 → ∀ b, b < 12 → a ≠ b → (TX0 a).2.1 ≠ (TX0 b).2.1 := by decide +kernel
theorem tyX0_ok : ∀ k, k < 12 → parseFieldDescriptor (TX0 k).2.2.1 = some (tyX0 k) := by decide +kernel
abbrev cX0_init : ByteArray := prog_2_method_1_code
def yX0_init : MethodName := ⟨RX0, "<init>", "()V"⟩
abbrev cX0_copyFrom : ByteArray := prog_2_method_2_code
def yX0_copyFrom : MethodName := ⟨RX0, "copyFrom", "(LLampRanks$Board;)V"⟩
abbrev cX0_hasNode : ByteArray := prog_2_method_3_code
def yX0_hasNode : MethodName := ⟨RX0, "hasNode", "(I)Z"⟩
abbrev cX0_hasLine : ByteArray := prog_2_method_4_code
def yX0_hasLine : MethodName := ⟨RX0, "hasLine", "(I)Z"⟩
abbrev cX0_addNode : ByteArray := prog_2_method_5_code
def yX0_addNode : MethodName := ⟨RX0, "addNode", "(II)I"⟩
abbrev cX0_addLine : ByteArray := prog_2_method_6_code
def yX0_addLine : MethodName := ⟨RX0, "addLine", "(III)I"⟩
abbrev cX0_setLineMask : ByteArray := prog_2_method_7_code
def yX0_setLineMask : MethodName := ⟨RX0, "setLineMask", "(II)I"⟩
abbrev cX0_setNodeMask : ByteArray := prog_2_method_8_code
def yX0_setNodeMask : MethodName := ⟨RX0, "setNodeMask", "(II)I"⟩
abbrev cX0_setThreshold : ByteArray := prog_2_method_9_code
def yX0_setThreshold : MethodName := ⟨RX0, "setThreshold", "(I)I"⟩
abbrev cX0_setLate : ByteArray := prog_2_method_10_code
def yX0_setLate : MethodName := ⟨RX0, "setLate", "(I)I"⟩
abbrev cX0_giveEdge : ByteArray := prog_2_method_11_code
def yX0_giveEdge : MethodName := ⟨RX0, "giveEdge", "(I)I"⟩
abbrev cX0_setLevel : ByteArray := prog_2_method_12_code
def yX0_setLevel : MethodName := ⟨RX0, "setLevel", "(II)I"⟩
abbrev cX0_takeNext : ByteArray := prog_2_method_13_code
def yX0_takeNext : MethodName := ⟨RX0, "takeNext", "()I"⟩
abbrev cX0_endService : ByteArray := prog_2_method_14_code
def yX0_endService : MethodName := ⟨RX0, "endService", "()I"⟩
abbrev cX0_passTicks : ByteArray := prog_2_method_15_code
def yX0_passTicks : MethodName := ⟨RX0, "passTicks", "(I)I"⟩
abbrev cX0_queueAcknowledge : ByteArray := prog_2_method_16_code
def yX0_queueAcknowledge : MethodName := ⟨RX0, "queueAcknowledge", "(I)V"⟩
abbrev cX0_acknowledgeDue : ByteArray := prog_2_method_17_code
def yX0_acknowledgeDue : MethodName := ⟨RX0, "acknowledgeDue", "()I"⟩
abbrev cX0_turnInputs : ByteArray := prog_2_method_18_code
def yX0_turnInputs : MethodName := ⟨RX0, "turnInputs", "(I)V"⟩
abbrev cX0_nextLine : ByteArray := prog_2_method_19_code
def yX0_nextLine : MethodName := ⟨RX0, "nextLine", "()I"⟩
abbrev cX0_passOver : ByteArray := prog_2_method_20_code
def yX0_passOver : MethodName := ⟨RX0, "passOver", "(I)V"⟩
abbrev cX0_lowestRank : ByteArray := prog_2_method_21_code
def yX0_lowestRank : MethodName := ⟨RX0, "lowestRank", "()I"⟩
abbrev cX0_isReady : ByteArray := prog_2_method_22_code
def yX0_isReady : MethodName := ⟨RX0, "isReady", "(II)Z"⟩
abbrev cX0_isMasked : ByteArray := prog_2_method_23_code
def yX0_isMasked : MethodName := ⟨RX0, "isMasked", "(I)Z"⟩
abbrev cX0_litSet : ByteArray := prog_2_method_24_code
def yX0_litSet : MethodName := ⟨RX0, "litSet", "()I"⟩
abbrev cX0_readySet : ByteArray := prog_2_method_25_code
def yX0_readySet : MethodName := ⟨RX0, "readySet", "()I"⟩
abbrev cX0_stageSet : ByteArray := prog_2_method_26_code
def yX0_stageSet : MethodName := ⟨RX0, "stageSet", "(I)I"⟩
abbrev cX0_ownMaskSet : ByteArray := prog_2_method_27_code
def yX0_ownMaskSet : MethodName := ⟨RX0, "ownMaskSet", "()I"⟩
abbrev cX0_anyMaskSet : ByteArray := prog_2_method_28_code
def yX0_anyMaskSet : MethodName := ⟨RX0, "anyMaskSet", "()I"⟩
abbrev cX0_linesBelow : ByteArray := prog_2_method_29_code
def yX0_linesBelow : MethodName := ⟨RX0, "linesBelow", "(I)I"⟩
abbrev cX0_edgeLineSet : ByteArray := prog_2_method_30_code
def yX0_edgeLineSet : MethodName := ⟨RX0, "edgeLineSet", "()I"⟩
abbrev cX0_tellLine : ByteArray := prog_2_method_31_code
def yX0_tellLine : MethodName := ⟨RX0, "tellLine", "(II)I"⟩
abbrev cX0_tellNode : ByteArray := prog_2_method_32_code
def yX0_tellNode : MethodName := ⟨RX0, "tellNode", "(II)I"⟩
abbrev cX0_tellInput : ByteArray := prog_2_method_33_code
def yX0_tellInput : MethodName := ⟨RX0, "tellInput", "(II)I"⟩
abbrev cX0_tellService : ByteArray := prog_2_method_34_code
def yX0_tellService : MethodName := ⟨RX0, "tellService", "(I)I"⟩
abbrev cX0_tellWaiting : ByteArray := prog_2_method_35_code
def yX0_tellWaiting : MethodName := ⟨RX0, "tellWaiting", "(I)I"⟩
abbrev cX0_tellNumber : ByteArray := prog_2_method_36_code
def yX0_tellNumber : MethodName := ⟨RX0, "tellNumber", "(I)I"⟩
abbrev cX0_allEdges : ByteArray := prog_2_method_37_code
def yX0_allEdges : MethodName := ⟨RX0, "allEdges", "()I"⟩
abbrev cX0_allLost : ByteArray := prog_2_method_38_code
def yX0_allLost : MethodName := ⟨RX0, "allLost", "()I"⟩
abbrev cX0_allTaken : ByteArray := prog_2_method_39_code
def yX0_allTaken : MethodName := ⟨RX0, "allTaken", "(Z)I"⟩
def RX1 : String := "LampRanks$EventText"
def TX1 : u_T := fun k => match k with
  | 0 => ("LampRanks$EventText", "signs", "[C", true)
  | 1 => ("LampRanks$EventText", "length", "I", false)
  | 2 => ("LampRanks$EventText", "start", "I", false)
  | 3 => ("LampRanks$EventText", "end", "I", false)
  | 4 => ("LampRanks$EventText", "first", "I", false)
  | 5 => ("LampRanks$EventText", "second", "I", false)
  | _ => ("LampRanks$EventText", "reason", "I", false)
def tyX1 : Nat → FieldType := fun k => match k with
  | 0 => .array .char
  | 1 => .int
  | 2 => .int
  | 3 => .int
  | 4 => .int
  | 5 => .int
  | _ => .int
abbrev wsX10 : List Cond := u_ws RX1 TX1 7
theorem nmX1 : ∀ a, a < 7 → ∀ b, b < 7 → a ≠ b → (TX1 a).2.1 ≠ (TX1 b).2.1 := by decide +kernel
theorem tyX1_ok : ∀ k, k < 7 → parseFieldDescriptor (TX1 k).2.2.1 = some (tyX1 k) := by decide +kernel
abbrev cX1_init : ByteArray := prog_3_method_1_code
def yX1_init : MethodName := ⟨RX1, "<init>", "()V"⟩
abbrev cX1_append : ByteArray := prog_3_method_2_code
def yX1_append : MethodName := ⟨RX1, "append", "(I)I"⟩
abbrev cX1_makeEmpty : ByteArray := prog_3_method_3_code
def yX1_makeEmpty : MethodName := ⟨RX1, "makeEmpty", "()I"⟩
abbrev cX1_runOn : ByteArray := prog_3_method_4_code
def yX1_runOn : MethodName := ⟨RX1, "runOn", "(LLampRanks$Board;)I"⟩
abbrev cX1_answerOf : ByteArray := prog_3_method_5_code
def yX1_answerOf : MethodName := ⟨RX1, "answerOf", "(LLampRanks$Board;)I"⟩
abbrev cX1_reasonOf : ByteArray := prog_3_method_6_code
def yX1_reasonOf : MethodName := ⟨RX1, "reasonOf", "(I)I"⟩
abbrev cX1_readEvent : ByteArray := prog_3_method_7_code
def yX1_readEvent : MethodName := ⟨RX1, "readEvent", "()Z"⟩
abbrev cX1_readNumber : ByteArray := prog_3_method_8_code
def yX1_readNumber : MethodName := ⟨RX1, "readNumber", "()I"⟩
abbrev cX1_readSign : ByteArray := prog_3_method_9_code
def yX1_readSign : MethodName := ⟨RX1, "readSign", "(C)Z"⟩
abbrev cX1_digitAt : ByteArray := prog_3_method_10_code
def yX1_digitAt : MethodName := ⟨RX1, "digitAt", "(I)I"⟩
abbrev cX1_signAt : ByteArray := prog_3_method_11_code
def yX1_signAt : MethodName := ⟨RX1, "signAt", "(I)C"⟩
def RX2 : String := "LampRanks$History"
def TX2 : u_T := fun k => match k with
  | 0 => ("LampRanks$History", "states", "[LLampRanks$Board;", true)
  | _ => ("LampRanks$History", "size", "I", false)
def tyX2 : Nat → FieldType := fun k => match k with
  | 0 => .array (.object "LampRanks$Board")
  | _ => .int
abbrev wsX20 : List Cond := u_ws RX2 TX2 2
theorem nmX2 : ∀ a, a < 2 → ∀ b, b < 2 → a ≠ b → (TX2 a).2.1 ≠ (TX2 b).2.1 := by decide +kernel
theorem tyX2_ok : ∀ k, k < 2 → parseFieldDescriptor (TX2 k).2.2.1 = some (tyX2 k) := by decide +kernel
abbrev cX2_init : ByteArray := prog_4_method_1_code
def yX2_init : MethodName := ⟨RX2, "<init>", "()V"⟩
abbrev cX2_prepare : ByteArray := prog_4_method_2_code
def yX2_prepare : MethodName := ⟨RX2, "prepare", "(LLampRanks$Board;)V"⟩
abbrev cX2_close : ByteArray := prog_4_method_3_code
def yX2_close : MethodName := ⟨RX2, "close", "(I)I"⟩
abbrev cX2_restore : ByteArray := prog_4_method_4_code
def yX2_restore : MethodName := ⟨RX2, "restore", "(LLampRanks$Board;)I"⟩
abbrev cX2_dropOldest : ByteArray := prog_4_method_5_code
def yX2_dropOldest : MethodName := ⟨RX2, "dropOldest", "()V"⟩
def RX3 : String := "LampRanks$Line"
def TX3 : u_T := fun k => match k with
  | 0 => ("LampRanks$Line", "node", "I", false)
  | 1 => ("LampRanks$Line", "rank", "I", false)
  | 2 => ("LampRanks$Line", "ofLevel", "Z", false)
  | 3 => ("LampRanks$Line", "lit", "Z", false)
  | 4 => ("LampRanks$Line", "masked", "Z", false)
  | 5 => ("LampRanks$Line", "stage", "I", false)
  | 6 => ("LampRanks$Line", "edges", "I", false)
  | 7 => ("LampRanks$Line", "lost", "I", false)
  | 8 => ("LampRanks$Line", "taken", "I", false)
  | 9 => ("LampRanks$Line", "longestWait", "I", false)
  | 10 => ("LampRanks$Line", "litAt", "I", false)
  | _ => ("LampRanks$Line", "dueAt", "I", false)
def tyX3 : Nat → FieldType := fun k => match k with
  | 0 => .int
  | 1 => .int
  | 2 => .boolean
  | 3 => .boolean
  | 4 => .boolean
  | 5 => .int
  | 6 => .int
  | 7 => .int
  | 8 => .int
  | 9 => .int
  | 10 => .int
  | _ => .int
abbrev wsX30 : List Cond := u_ws RX3 TX3 12
theorem nmX3 : ∀ a, a < 12 → ∀ b, b < 12 → a ≠ b → (TX3 a).2.1 ≠ (TX3 b).2.1 := by decide +kernel
theorem tyX3_ok : ∀ k, k < 12 → parseFieldDescriptor (TX3 k).2.2.1 = some (tyX3 k) := by decide +kernel
abbrev cX3_init : ByteArray := prog_5_method_1_code
def yX3_init : MethodName := ⟨RX3, "<init>", "()V"⟩
abbrev cX3_copyFrom : ByteArray := prog_5_method_2_code
def yX3_copyFrom : MethodName := ⟨RX3, "copyFrom", "(LLampRanks$Line;)V"⟩
def RX4 : String := "LampRanks$Node"
def TX4 : u_T := fun k => match k with
  | 0 => ("LampRanks$Node", "inputs", "LLampRanks$Row;", true)
  | 1 => ("LampRanks$Node", "on", "I", false)
  | 2 => ("LampRanks$Node", "turning", "Z", false)
  | _ => ("LampRanks$Node", "way", "I", false)
def tyX4 : Nat → FieldType := fun k => match k with
  | 0 => .object "LampRanks$Row"
  | 1 => .int
  | 2 => .boolean
  | _ => .int
abbrev wsX40 : List Cond := u_ws RX4 TX4 4
theorem nmX4 : ∀ a, a < 4 → ∀ b, b < 4 → a ≠ b → (TX4 a).2.1 ≠ (TX4 b).2.1 := by decide +kernel
theorem tyX4_ok : ∀ k, k < 4 → parseFieldDescriptor (TX4 k).2.2.1 = some (tyX4 k) := by decide +kernel
abbrev cX4_init : ByteArray := prog_6_method_1_code
def yX4_init : MethodName := ⟨RX4, "<init>", "()V"⟩
abbrev cX4_copyFrom : ByteArray := prog_6_method_2_code
def yX4_copyFrom : MethodName := ⟨RX4, "copyFrom", "(LLampRanks$Node;)V"⟩
def RX5 : String := "LampRanks$Row"
def TX5 : u_T := fun k => match k with
  | 0 => ("LampRanks$Row", "cells", "[I", true)
  | _ => ("LampRanks$Row", "size", "I", false)
def tyX5 : Nat → FieldType := fun k => match k with
  | 0 => .array .int
  | _ => .int
abbrev wsX50 : List Cond := u_ws RX5 TX5 2
theorem nmX5 : ∀ a, a < 2 → ∀ b, b < 2 → a ≠ b → (TX5 a).2.1 ≠ (TX5 b).2.1 := by decide +kernel
theorem tyX5_ok : ∀ k, k < 2 → parseFieldDescriptor (TX5 k).2.2.1 = some (tyX5 k) := by decide +kernel
abbrev cX5_init : ByteArray := prog_7_method_1_code
def yX5_init : MethodName := ⟨RX5, "<init>", "()V"⟩
abbrev cX5_get : ByteArray := prog_7_method_2_code
def yX5_get : MethodName := ⟨RX5, "get", "(I)I"⟩
abbrev cX5_insert : ByteArray := prog_7_method_3_code
def yX5_insert : MethodName := ⟨RX5, "insert", "(II)V"⟩
abbrev cX5_remove : ByteArray := prog_7_method_4_code
def yX5_remove : MethodName := ⟨RX5, "remove", "(I)V"⟩
abbrev cX5_moveBehind : ByteArray := prog_7_method_5_code
def yX5_moveBehind : MethodName := ⟨RX5, "moveBehind", "(I)V"⟩
abbrev cX5_copyFrom : ByteArray := prog_7_method_6_code
def yX5_copyFrom : MethodName := ⟨RX5, "copyFrom", "(LLampRanks$Row;)V"⟩
def RX6 : String := "LampRanks"
def TX6 : u_T := fun k => match k with
  | 0 => ("LampRanks", "board", "LLampRanks$Board;", true)
  | 1 => ("LampRanks", "trial", "LLampRanks$Board;", true)
  | 2 => ("LampRanks", "history", "LLampRanks$History;", true)
  | _ => ("LampRanks", "text", "LLampRanks$EventText;", true)
def tyX6 : Nat → FieldType := fun k => match k with
  | 0 => .object "LampRanks$Board"
  | 1 => .object "LampRanks$Board"
  | 2 => .object "LampRanks$History"
  | _ => .object "LampRanks$EventText"
abbrev wsX60 : List Cond := u_ws RX6 TX6 4
theorem nmX6 : ∀ a, a < 4 → ∀ b, b < 4 → a ≠ b → (TX6 a).2.1 ≠ (TX6 b).2.1 := by decide +kernel
theorem tyX6_ok : ∀ k, k < 4 → parseFieldDescriptor (TX6 k).2.2.1 = some (tyX6 k) := by decide +kernel
abbrev cX6_init : ByteArray := prog_1_method_1_code
def yX6_init : MethodName := ⟨RX6, "<init>", "()V"⟩
abbrev cX6_node : ByteArray := prog_1_method_2_code
def yX6_node : MethodName := ⟨RX6, "node", "(II)I"⟩
abbrev cX6_line : ByteArray := prog_1_method_3_code
def yX6_line : MethodName := ⟨RX6, "line", "(III)I"⟩
abbrev cX6_mask : ByteArray := prog_1_method_4_code
def yX6_mask : MethodName := ⟨RX6, "mask", "(II)I"⟩
abbrev cX6_maskNode : ByteArray := prog_1_method_5_code
def yX6_maskNode : MethodName := ⟨RX6, "maskNode", "(II)I"⟩
abbrev cX6_threshold : ByteArray := prog_1_method_6_code
def yX6_threshold : MethodName := ⟨RX6, "threshold", "(I)I"⟩
abbrev cX6_late : ByteArray := prog_1_method_7_code
def yX6_late : MethodName := ⟨RX6, "late", "(I)I"⟩
abbrev cX6_lineOf : ByteArray := prog_1_method_8_code
def yX6_lineOf : MethodName := ⟨RX6, "lineOf", "(II)I"⟩
abbrev cX6_nodeOf : ByteArray := prog_1_method_9_code
def yX6_nodeOf : MethodName := ⟨RX6, "nodeOf", "(II)I"⟩
abbrev cX6_inputAt : ByteArray := prog_1_method_10_code
def yX6_inputAt : MethodName := ⟨RX6, "inputAt", "(II)I"⟩
abbrev cX6_edge : ByteArray := prog_1_method_11_code
def yX6_edge : MethodName := ⟨RX6, "edge", "(I)I"⟩
abbrev cX6_level : ByteArray := prog_1_method_12_code
def yX6_level : MethodName := ⟨RX6, "level", "(II)I"⟩
abbrev cX6_take : ByteArray := prog_1_method_13_code
def yX6_take : MethodName := ⟨RX6, "take", "()I"⟩
abbrev cX6_done : ByteArray := prog_1_method_14_code
def yX6_done : MethodName := ⟨RX6, "done", "()I"⟩
abbrev cX6_tick : ByteArray := prog_1_method_15_code
def yX6_tick : MethodName := ⟨RX6, "tick", "(I)I"⟩
abbrev cX6_next : ByteArray := prog_1_method_16_code
def yX6_next : MethodName := ⟨RX6, "next", "()I"⟩
abbrev cX6_orderAt : ByteArray := prog_1_method_17_code
def yX6_orderAt : MethodName := ⟨RX6, "orderAt", "(I)I"⟩
abbrev cX6_serviceAt : ByteArray := prog_1_method_18_code
def yX6_serviceAt : MethodName := ⟨RX6, "serviceAt", "(I)I"⟩
abbrev cX6_waitingAt : ByteArray := prog_1_method_19_code
def yX6_waitingAt : MethodName := ⟨RX6, "waitingAt", "(I)I"⟩
abbrev cX6_lines : ByteArray := prog_1_method_20_code
def yX6_lines : MethodName := ⟨RX6, "lines", "(I)I"⟩
abbrev cX6_count : ByteArray := prog_1_method_21_code
def yX6_count : MethodName := ⟨RX6, "count", "(I)I"⟩
abbrev cX6_undo : ByteArray := prog_1_method_22_code
def yX6_undo : MethodName := ⟨RX6, "undo", "()I"⟩
abbrev cX6_type : ByteArray := prog_1_method_23_code
def yX6_type : MethodName := ⟨RX6, "type", "(I)I"⟩
abbrev cX6_clearText : ByteArray := prog_1_method_24_code
def yX6_clearText : MethodName := ⟨RX6, "clearText", "()I"⟩
abbrev cX6_fault : ByteArray := prog_1_method_25_code
def yX6_fault : MethodName := ⟨RX6, "fault", "(I)I"⟩
abbrev cX6_play : ByteArray := prog_1_method_26_code
def yX6_play : MethodName := ⟨RX6, "play", "()I"⟩
abbrev cX6_isBit : ByteArray := prog_1_method_27_code
def yX6_isBit : MethodName := ⟨RX6, "isBit", "(I)Z"⟩
abbrev cX6_asBit : ByteArray := prog_1_method_28_code
def yX6_asBit : MethodName := ⟨RX6, "asBit", "(Z)I"⟩
def RX7 : String := "LampRanksModel"
def TX7 : u_T := fun k => match k with
  | 0 => ("LampRanksModel", "s", "[I", true)
  | 1 => ("LampRanksModel", "before", "[I", true)
  | 2 => ("LampRanksModel", "aside", "[I", true)
  | 3 => ("LampRanksModel", "order", "[I", true)
  | 4 => ("LampRanksModel", "stack", "[I", true)
  | 5 => ("LampRanksModel", "place", "[I", true)
  | 6 => ("LampRanksModel", "text", "[I", true)
  | 7 => ("LampRanksModel", "length", "I", false)
  | 8 => ("LampRanksModel", "undoMany", "I", false)
  | 9 => ("LampRanksModel", "at", "I", false)
  | 10 => ("LampRanksModel", "first", "I", false)
  | 11 => ("LampRanksModel", "second", "I", false)
  | _ => ("LampRanksModel", "events", "I", false)
def tyX7 : Nat → FieldType := fun k => match k with
  | 0 => .array .int
  | 1 => .array .int
  | 2 => .array .int
  | 3 => .array .int
  | 4 => .array .int
  | 5 => .array .int
  | 6 => .array .int
  | 7 => .int
  | 8 => .int
  | 9 => .int
  | 10 => .int
  | 11 => .int
  | _ => .int
abbrev wsX70 : List Cond := u_ws RX7 TX7 13
theorem nmX7 : ∀ a, a < 13 → ∀ b, b < 13 → a ≠ b → (TX7 a).2.1 ≠ (TX7 b).2.1 := by decide +kernel
theorem tyX7_ok : ∀ k, k < 13 → parseFieldDescriptor (TX7 k).2.2.1 = some (tyX7 k) := by decide +kernel
abbrev cX7_init : ByteArray := prog_9_method_1_code
def yX7_init : MethodName := ⟨RX7, "<init>", "()V"⟩
abbrev cX7_in : ByteArray := prog_9_method_2_code
def yX7_in : MethodName := ⟨RX7, "in", "(III)Z"⟩
abbrev cX7_record : ByteArray := prog_9_method_3_code
def yX7_record : MethodName := ⟨RX7, "record", "()V"⟩
abbrev cX7_layAside : ByteArray := prog_9_method_4_code
def yX7_layAside : MethodName := ⟨RX7, "layAside", "()V"⟩
abbrev cX7_layBack : ByteArray := prog_9_method_5_code
def yX7_layBack : MethodName := ⟨RX7, "layBack", "()V"⟩
abbrev cX7_n : ByteArray := prog_9_method_6_code
def yX7_n : MethodName := ⟨RX7, "n", "(I)I"⟩
abbrev cX7_l : ByteArray := prog_9_method_7_code
def yX7_l : MethodName := ⟨RX7, "l", "(I)I"⟩
abbrev cX7_isNode : ByteArray := prog_9_method_8_code
def yX7_isNode : MethodName := ⟨RX7, "isNode", "(I)Z"⟩
abbrev cX7_isLine : ByteArray := prog_9_method_9_code
def yX7_isLine : MethodName := ⟨RX7, "isLine", "(I)Z"⟩
abbrev cX7_isBit : ByteArray := prog_9_method_10_code
def yX7_isBit : MethodName := ⟨RX7, "isBit", "(I)Z"⟩
abbrev cX7_hang : ByteArray := prog_9_method_11_code
def yX7_hang : MethodName := ⟨RX7, "hang", "(II)V"⟩
abbrev cX7_node : ByteArray := prog_9_method_12_code
def yX7_node : MethodName := ⟨RX7, "node", "(II)I"⟩
abbrev cX7_line : ByteArray := prog_9_method_13_code
def yX7_line : MethodName := ⟨RX7, "line", "(III)I"⟩
abbrev cX7_isOnWay : ByteArray := prog_9_method_14_code
def yX7_isOnWay : MethodName := ⟨RX7, "isOnWay", "(II)Z"⟩
abbrev cX7_linesBy : ByteArray := prog_9_method_15_code
def yX7_linesBy : MethodName := ⟨RX7, "linesBy", "(I)I"⟩
abbrev cX7_bits : ByteArray := prog_9_method_16_code
def yX7_bits : MethodName := ⟨RX7, "bits", "(I)I"⟩
abbrev cX7_mask : ByteArray := prog_9_method_17_code
def yX7_mask : MethodName := ⟨RX7, "mask", "(II)I"⟩
abbrev cX7_maskNode : ByteArray := prog_9_method_18_code
def yX7_maskNode : MethodName := ⟨RX7, "maskNode", "(II)I"⟩
abbrev cX7_threshold : ByteArray := prog_9_method_19_code
def yX7_threshold : MethodName := ⟨RX7, "threshold", "(I)I"⟩
abbrev cX7_late : ByteArray := prog_9_method_20_code
def yX7_late : MethodName := ⟨RX7, "late", "(I)I"⟩
abbrev cX7_isHidden : ByteArray := prog_9_method_21_code
def yX7_isHidden : MethodName := ⟨RX7, "isHidden", "(I)Z"⟩
abbrev cX7_isReady : ByteArray := prog_9_method_22_code
def yX7_isReady : MethodName := ⟨RX7, "isReady", "(I)Z"⟩
abbrev cX7_layOrder : ByteArray := prog_9_method_23_code
def yX7_layOrder : MethodName := ⟨RX7, "layOrder", "()V"⟩
abbrev cX7_nextLine : ByteArray := prog_9_method_24_code
def yX7_nextLine : MethodName := ⟨RX7, "nextLine", "()I"⟩
abbrev cX7_turnBehind : ByteArray := prog_9_method_25_code
def yX7_turnBehind : MethodName := ⟨RX7, "turnBehind", "(II)V"⟩
abbrev cX7_turnWay : ByteArray := prog_9_method_26_code
def yX7_turnWay : MethodName := ⟨RX7, "turnWay", "(I)V"⟩
abbrev cX7_goTake : ByteArray := prog_9_method_27_code
def yX7_goTake : MethodName := ⟨RX7, "goTake", "(I)V"⟩
abbrev cX7_goDone : ByteArray := prog_9_method_28_code
def yX7_goDone : MethodName := ⟨RX7, "goDone", "()I"⟩
abbrev cX7_litState : ByteArray := prog_9_method_29_code
def yX7_litState : MethodName := ⟨RX7, "litState", "(II)I"⟩
abbrev cX7_lineOf : ByteArray := prog_9_method_30_code
def yX7_lineOf : MethodName := ⟨RX7, "lineOf", "(II)I"⟩
abbrev cX7_nodeOf : ByteArray := prog_9_method_31_code
def yX7_nodeOf : MethodName := ⟨RX7, "nodeOf", "(II)I"⟩
abbrev cX7_inputAt : ByteArray := prog_9_method_32_code
def yX7_inputAt : MethodName := ⟨RX7, "inputAt", "(II)I"⟩
abbrev cX7_goEdge : ByteArray := prog_9_method_33_code
def yX7_goEdge : MethodName := ⟨RX7, "goEdge", "(I)I"⟩
abbrev cX7_edge : ByteArray := prog_9_method_34_code
def yX7_edge : MethodName := ⟨RX7, "edge", "(I)I"⟩
abbrev cX7_canLevel : ByteArray := prog_9_method_35_code
def yX7_canLevel : MethodName := ⟨RX7, "canLevel", "(II)Z"⟩
abbrev cX7_level : ByteArray := prog_9_method_36_code
def yX7_level : MethodName := ⟨RX7, "level", "(II)I"⟩
abbrev cX7_take : ByteArray := prog_9_method_37_code
def yX7_take : MethodName := ⟨RX7, "take", "()I"⟩
abbrev cX7_done : ByteArray := prog_9_method_38_code
def yX7_done : MethodName := ⟨RX7, "done", "()I"⟩
abbrev cX7_goTicks : ByteArray := prog_9_method_39_code
def yX7_goTicks : MethodName := ⟨RX7, "goTicks", "(I)I"⟩
abbrev cX7_tick : ByteArray := prog_9_method_40_code
def yX7_tick : MethodName := ⟨RX7, "tick", "(I)I"⟩
abbrev cX7_next : ByteArray := prog_9_method_41_code
def yX7_next : MethodName := ⟨RX7, "next", "()I"⟩
abbrev cX7_orderAt : ByteArray := prog_9_method_42_code
def yX7_orderAt : MethodName := ⟨RX7, "orderAt", "(I)I"⟩
abbrev cX7_serviceAt : ByteArray := prog_9_method_43_code
def yX7_serviceAt : MethodName := ⟨RX7, "serviceAt", "(I)I"⟩
abbrev cX7_isAhead : ByteArray := prog_9_method_44_code
def yX7_isAhead : MethodName := ⟨RX7, "isAhead", "(II)Z"⟩
abbrev cX7_waitingAt : ByteArray := prog_9_method_45_code
def yX7_waitingAt : MethodName := ⟨RX7, "waitingAt", "(I)I"⟩
abbrev cX7_isOf : ByteArray := prog_9_method_46_code
def yX7_isOf : MethodName := ⟨RX7, "isOf", "(II)Z"⟩
abbrev cX7_linesOf : ByteArray := prog_9_method_47_code
def yX7_linesOf : MethodName := ⟨RX7, "linesOf", "(I)I"⟩
abbrev cX7_lines : ByteArray := prog_9_method_48_code
def yX7_lines : MethodName := ⟨RX7, "lines", "(I)I"⟩
abbrev cX7_litEdges : ByteArray := prog_9_method_49_code
def yX7_litEdges : MethodName := ⟨RX7, "litEdges", "()I"⟩
abbrev cX7_count : ByteArray := prog_9_method_50_code
def yX7_count : MethodName := ⟨RX7, "count", "(I)I"⟩
abbrev cX7_undo : ByteArray := prog_9_method_51_code
def yX7_undo : MethodName := ⟨RX7, "undo", "()I"⟩
abbrev cX7_type : ByteArray := prog_9_method_52_code
def yX7_type : MethodName := ⟨RX7, "type", "(I)I"⟩
abbrev cX7_clearText : ByteArray := prog_9_method_53_code
def yX7_clearText : MethodName := ⟨RX7, "clearText", "()I"⟩
abbrev cX7_sees : ByteArray := prog_9_method_54_code
def yX7_sees : MethodName := ⟨RX7, "sees", "(I)Z"⟩
abbrev cX7_number : ByteArray := prog_9_method_55_code
def yX7_number : MethodName := ⟨RX7, "number", "()I"⟩
abbrev cX7_isForm : ByteArray := prog_9_method_56_code
def yX7_isForm : MethodName := ⟨RX7, "isForm", "(I)Z"⟩
abbrev cX7_isRange : ByteArray := prog_9_method_57_code
def yX7_isRange : MethodName := ⟨RX7, "isRange", "(I)Z"⟩
abbrev cX7_isPossible : ByteArray := prog_9_method_58_code
def yX7_isPossible : MethodName := ⟨RX7, "isPossible", "(I)Z"⟩
abbrev cX7_goEvent : ByteArray := prog_9_method_59_code
def yX7_goEvent : MethodName := ⟨RX7, "goEvent", "(I)V"⟩
abbrev cX7_isSign : ByteArray := prog_9_method_60_code
def yX7_isSign : MethodName := ⟨RX7, "isSign", "(I)Z"⟩
abbrev cX7_run : ByteArray := prog_9_method_61_code
def yX7_run : MethodName := ⟨RX7, "run", "()I"⟩
abbrev cX7_fault : ByteArray := prog_9_method_62_code
def yX7_fault : MethodName := ⟨RX7, "fault", "(I)I"⟩
abbrev cX7_play : ByteArray := prog_9_method_63_code
def yX7_play : MethodName := ⟨RX7, "play", "()I"⟩
def RJ6 : String := "java/lang/Integer"
def TJ6 : u_T := fun k => match k with
  | _ => ("", "", "", false)
def tyJ6 : Nat → FieldType := fun k => match k with
  | _ => .int
abbrev wsJ60 : List Cond := u_ws RJ6 TJ6 0
theorem nmJ6 : ∀ a, a < 0 → ∀ b, b < 0 → a ≠ b → (TJ6 a).2.1 ≠ (TJ6 b).2.1 := by decide +kernel
theorem tyJ6_ok : ∀ k, k < 0 → parseFieldDescriptor (TJ6 k).2.2.1 = some (tyJ6 k) := by decide +kernel
abbrev cJ6_bitCount_0f7a4 : ByteArray := prog_10_method_49_code
def yJ6_bitCount_0f7a4 : MethodName := ⟨RJ6, "bitCount", "(I)I"⟩
def RJ9 : String := "java/lang/Math"
def TJ9 : u_T := fun k => match k with
  | _ => ("", "", "", false)
def tyJ9 : Nat → FieldType := fun k => match k with
  | _ => .int
abbrev wsJ90 : List Cond := u_ws RJ9 TJ9 0
theorem nmJ9 : ∀ a, a < 0 → ∀ b, b < 0 → a ≠ b → (TJ9 a).2.1 ≠ (TJ9 b).2.1 := by decide +kernel
theorem tyJ9_ok : ∀ k, k < 0 → parseFieldDescriptor (TJ9 k).2.2.1 = some (tyJ9 k) := by decide +kernel
abbrev cJ9_max_7cf53 : ByteArray := prog_11_method_65_code
def yJ9_max_7cf53 : MethodName := ⟨RJ9, "max", "(II)I"⟩
def RJ10 : String := "java/lang/System"
def TJ10 : u_T := fun k => match k with
  | _ => ("", "", "", false)
def tyJ10 : Nat → FieldType := fun k => match k with
  | _ => .int
abbrev wsJ100 : List Cond := u_ws RJ10 TJ10 0
theorem nmJ10 : ∀ a, a < 0 → ∀ b, b < 0 → a ≠ b → (TJ10 a).2.1 ≠ (TJ10 b).2.1 := by decide +kernel
theorem tyJ10_ok : ∀ k, k < 0 → parseFieldDescriptor (TJ10 k).2.2.1 = some (tyJ10 k) := by decide +kernel
def RL : String := "LampRanksLaw"
abbrev cL_law : ByteArray := code
def yL_law : MethodName := ⟨RL, "law", "([I)Z"⟩
abbrev vwCl : List vw_C := [(RX0, TX0, 12), (RX1, TX1, 7), (RX2, TX2, 2), (RX3, TX3, 12), (RX4, TX4, 4), (RX5, TX5, 2), (RX6, TX6, 4), (RX7, TX7, 13)]
end
section
/-! THE WORLD AS ONE MEMORY: kinds of addresses (sh), whole numbers (I), references (P); one judgement PW for the walk of a body, one PM for a contract -/
def pw_T : List Cond := lw_tbl.filter goodWord
def pw_isN (w : Cond) : Bool := match w with
  | .fieldLinkNest _ _ _ _ _ _ => true
  | .methodLinkNest _ _ _ _ => true
  | _ => false
def pw_N : List Cond := lw_tbl.filter pw_isN
theorem pw_good {a b : Cond} (hb : b ∈ pw_T) : GoodIn (a :: pw_T) (b :: pw_T) := by
  intro w hw
  have hm : w ∈ pw_T := by
    rcases List.mem_cons.mp hw with rfl | h
    · exact hb
    · exact h
  exact ⟨List.mem_cons_of_mem _ hm, good_of_word (List.mem_filter.mp hm).2⟩
theorem pw_goodT {b : Cond} (hb : b ∈ pw_T) : GoodIn pw_T (b :: pw_T) := by
  intro w hw
  have hm : w ∈ pw_T := by
    rcases List.mem_cons.mp hw with rfl | h
    · exact hb
    · exact h
  exact ⟨hm, good_of_word (List.mem_filter.mp hm).2⟩
abbrev pm_I : Type := MethodName × ByteArray × Nat × Option FieldType
abbrev pw_Sh : Type := Nat → Nat × Nat
abbrev pw_P : Type := Nat → Nat → Option Nat
abbrev pw_I : Type := Nat → Nat → Int32
abbrev pw_X : Type := Option (Nat × Nat × (Nat → Int32))
abbrev pw_g : Type := pm_I × Nat × Nat × Nat × pw_X × Nat
abbrev pw_Q : Type := Option Value → Nat → pw_Sh → pw_P → pw_I → Prop
/-- fields of references, by class and slot -/
def pw_rf : Nat → Nat → Bool
  | 0, 0 => true
  | 0, 1 => true
  | 0, 9 => true
  | 0, 10 => true
  | 0, 11 => true
  | 1, 0 => true
  | 2, 0 => true
  | 4, 0 => true
  | 5, 0 => true
  | 6, _ => true
  | 7, 0 => true
  | 7, 1 => true
  | 7, 2 => true
  | 7, 3 => true
  | 7, 4 => true
  | 7, 5 => true
  | 7, 6 => true
  | _, _ => false
def pw_nf : Nat → Nat
  | 0 => 12
  | 1 => 7
  | 2 => 2
  | 3 => 12
  | 4 => 4
  | 5 => 2
  | 6 => 4
  | _ => 13
def pw_R : Nat → String
  | 0 => RX0
  | 1 => RX1
  | 2 => RX2
  | 3 => RX3
  | 4 => RX4
  | 5 => RX5
  | 6 => RX6
  | _ => RX7
def pw_tb : Nat → u_T
  | 0 => TX0
  | 1 => TX1
  | 2 => TX2
  | 3 => TX3
  | 4 => TX4
  | 5 => TX5
  | 6 => TX6
  | _ => TX7
def pw_ty : Nat → Nat → FieldType
  | 0 => tyX0
  | 1 => tyX1
  | 2 => tyX2
  | 3 => tyX3
  | 4 => tyX4
  | 5 => tyX5
  | 6 => tyX6
  | _ => tyX7
/-- what each of the eight classes gives -/
def pw_clok (ci : Nat) : Prop := vwCl[ci]? = some (pw_R ci, pw_tb ci, pw_nf ci) ∧ (∀ w ∈ u_ws (pw_R ci) (pw_tb ci) (pw_nf ci), w ∈ pw_T) ∧
  (∀ k, k < pw_nf ci → parseFieldDescriptor (pw_tb ci k).2.2.1 = some (pw_ty ci k)) ∧
  (∀ a, a < pw_nf ci → ∀ b, b < pw_nf ci → a ≠ b → (pw_tb ci a).2.1 ≠ (pw_tb ci b).2.1)
def pw_val (ci : Nat) (P : pw_P) (I : pw_I) (a k : Nat) : Value := bif pw_rf ci k then va_rf (P a k) else .int (I a k)
def pw_cell (D : va_G) (dA : Nat → ClassId) (sh : pw_Sh) (P : pw_P) (I : pw_I) (H : Heap) (a : Nat) : Prop :=
  ((sh a).1 < 8 → t_OB a (D.1 (sh a).1) (pw_nf (sh a).1) (D.2 (sh a).1) H (pw_val (sh a).1 P I a)) ∧
  ((sh a).1 = 8 ∨ (sh a).1 = 9 → H[a]? = some (arrV (dA (sh a).1) (sh a).2 (fun j => .int (I a j)))) ∧
  (10 ≤ (sh a).1 ∧ (sh a).1 ≤ 12 → H[a]? = some (arrV (dA (sh a).1) (sh a).2 (fun j => va_rf (P a j))))
def pw_Wd (D : va_G) (dA : Nat → ClassId) (base n : Nat) (sh : pw_Sh) (P : pw_P) (I : pw_I) (H : Heap) : Prop :=
  H.size = base + n ∧ ∀ a, (sh a).1 ≤ 12 → (base ≤ a ∧ a < base + n) ∧ pw_cell D dA sh P I H a
def pw_tys (dA : Nat → ClassId) : List (ClassId × FieldType) := [(dA 8, .int), (dA 9, .char), (dA 10, .object RX4), (dA 11, .object RX3), (dA 12, .object RX0)]
def pw_K (D : va_G) (dA : Nat → ClassId) (U : State) : Prop := va_K D vwCl (pw_tys dA) U ∧ (∀ w ∈ pw_N, va_Nw w U) ∧ va_AO RX4 U ∧ va_AO RX3 U ∧ va_AO RX0 U
theorem pw_K.warm {D : va_G} {dA : Nat → ClassId} {s U : State} (hW : s.WarmedH U.vm) (h : pw_K D dA s) : pw_K D dA U := by
  obtain ⟨h1, h2, h3, h4, h5⟩ := h
  refine ⟨h1.moved hW.alike, fun w hw => ?_, h3.moved hW.alike, h4.moved hW.alike, h5.moved hW.alike⟩
  have hq := (List.mem_filter.mp hw).2
  have hz := h2 w hw
  cases w with
  | fieldLinkNest a b c d e f => exact va_Nw.warmF hW hz
  | methodLinkNest a b c d => exact va_Nw.warmM hW hz
  | _ => cases hq
theorem pw_K.same {D : va_G} {dA : Nat → ClassId} {u U : State} (hv : u.vm = U.vm) (h : pw_K D dA u) : pw_K D dA U := by
  obtain ⟨h1, h2, h3, h4, h5⟩ := h
  have hA : u.vm.Alike U.vm := by rw [hv]; exact Vm.Alike.refl _
  refine ⟨h1.moved hA, fun w hw => ?_, h3.moved hA, h4.moved hA, h5.moved hA⟩
  have hq := (List.mem_filter.mp hw).2
  have hz := h2 w hw
  cases w with
  | fieldLinkNest a b c d e f => exact va_Nw.same rfl hv hz
  | methodLinkNest a b c d => exact va_Nw.same rfl hv hz
  | _ => cases hq
/-- locals: a list of as many as the method has -/
def pl_has (ls : Array Slot) (n : Nat) (L : List (Option Value)) : Prop := ls.size = n ∧ L.length = n ∧ lv_wf ls ∧ ∀ (i : Nat) (v : Value), L[i]? = some (some v) → ls[i]? = some (.val v) ∧ v.category = 1
def pl_lv (L : List (Option Value)) : List (Nat × Value) := (List.range L.length).filterMap (fun i => (L[i]?.join).map (fun v => (i, v)))
theorem pl_mem {L : List (Option Value)} {i : Nat} {v : Value} : (i, v) ∈ pl_lv L ↔ L[i]? = some (some v) := by
  unfold pl_lv
  rw [List.mem_filterMap]
  constructor
  · rintro ⟨j, hj, h⟩
    rw [Option.map_eq_some_iff] at h
    obtain ⟨w, h1, h2⟩ := h
    cases h2
    rw [Option.join_eq_some_iff] at h1
    exact h1
  · intro h
    have hi : i < L.length := (List.getElem?_eq_some_iff.mp h).1
    exact ⟨i, List.mem_range.mpr hi, by rw [h]; rfl⟩
theorem pl_has.lv {ls : Array Slot} {n : Nat} {L : List (Option Value)} (h : pl_has ls n L) : lv_has ls n (pl_lv L) :=
  ⟨h.1, h.2.2.1, fun q hq => (h.2.2.2 q.1 q.2 (pl_mem.mp hq)).1⟩
theorem pl_has.st {ls ls' : Array Slot} {n i : Nat} {L : List (Option Value)} {v : Value} (h : pl_has ls n L) (hc : v.category = 1)
    (h' : lv_has ls' n ((i, v) :: (pl_lv L).filter (fun q => !(q.1 == i) && !(q.1 + 1 == i && q.2.category == 2)))) : pl_has ls' n (L.set i (some v)) := by
  refine ⟨h'.1, by rw [List.length_set]; exact h.2.1, h'.2.1, fun j w hj => ?_⟩
  by_cases e : i = j
  · subst e
    have hi : i < L.length := by
      have := (List.getElem?_eq_some_iff.mp hj).1
      rwa [List.length_set] at this
    rw [List.getElem?_set_self hi] at hj
    cases hj
    exact ⟨h'.2.2 (i, v) List.mem_cons_self, hc⟩
  · rw [List.getElem?_set_ne e] at hj
    have hw := h.2.2.2 j w hj
    refine ⟨h'.2.2 (j, w) (List.mem_cons_of_mem _ (List.mem_filter.mpr ⟨pl_mem.mpr hj, ?_⟩)), hw.2⟩
    have e1 : (j == i) = false := by simpa using fun q : j = i => e q.symm
    have e2 : (w.category == 2) = false := by rw [hw.2]; rfl
    simp [e1, e2]
def pw_ctx (p : Program) (s : State) (m : MethodId) (args : Array Value) (meth : Method) (c : Code) (R : Room) (g : pw_g) (D : va_G) (dA : Nat → ClassId) : Prop :=
  p.tables.exec = Jvm.exec ∧ c.code = g.1.2.1 ∧ meth.sig.returnType = g.1.2.2.2 ∧ c.maxLocals = g.1.2.2.1 ∧ s.vm.findClass g.1.1.cls = some m.cls ∧ (∀ w ∈ pw_T, w.before args s = true) ∧ meth.locks = false ∧ pw_K D dA s ∧
  (g.1.1.name = "<init>" → meth.name = "<init>") ∧ (g.2.1 ≤ R.frames ∧ 30 * g.2.1 ≤ R.locals ∧ g.2.2.1 ≤ R.cells ∧ g.2.2.2.1 ≤ R.slots) ∧ g.2.2.2.2.2 ≤ s.heap.size ∧
  (∀ q, g.2.2.2.2.1 = some q → va_X q.1 q.2.1 q.2.2 s s.heap ∧ q.1 < g.2.2.2.2.2)
/-- the end of a body: an answer of the method's type, at an instruction that gives it -/
def pw_nok (ty : Option FieldType) (x : Int32) : Prop := match ty with
  | some .int => True
  | some .boolean => x = 0 ∨ x = 1
  | some .char => ∃ n : Nat, n < 65536 ∧ x = nI n
  | _ => False
theorem pw_nok_narrow {rt : Option FieldType} {x : Int32} (h : pw_nok rt x) : ∃ ty, rt = some ty ∧ narrow ty (.int x) = .int x := by
  unfold pw_nok at h
  split at h
  · exact ⟨_, rfl, rfl⟩
  · rcases h with rfl | rfl
    · exact ⟨_, rfl, rfl⟩
    · exact ⟨_, rfl, rfl⟩
  · obtain ⟨n, hn, rfl⟩ := h
    exact ⟨_, rfl, (pk_charN hn).1⟩
  · exact h.elim
def pw_ret (y : pm_I) (v : Option Value) (pc : Nat) : Prop := match v with
  | none => decode y.2.1 pc = .ok (.return_, 1) ∧ y.2.2.2 = none
  | some v => decode y.2.1 pc = .ok (.ireturn, 1) ∧ ∃ x : Int32, v = .int x ∧ pw_nok y.2.2.2 x
def PW (g : pw_g) (n : Nat) (sh : pw_Sh) (P : pw_P) (I : pw_I) (uc us pc : Nat) (L : List (Option Value)) (st : List Value) (Q : pw_Q) : Prop :=
  ∀ (p : Program) (l : Launch) (e : Env) (R : Room) (s : State) (m : MethodId) (args : Array Value) (below : List Frame) (meth : Method) (c : Code) (H : Heap) (locs : List Loc) (cells slots : Nat) (D : va_G) (dA : Nat → ClassId) (ls : Array Slot) (Qf : State → Prop),
    pw_ctx p s m args meth c R g D dA → pw_Wd D dA g.2.2.2.2.2 n sh P I H → va_S (fun q => g.2.2.2.2.2 ≤ q) s.heap H locs → pl_has ls g.1.2.2.1 L → cells ≤ uc → slots ≤ us →
    (∀ (v : Option Value) (n' : Nat) (sh' : pw_Sh) (P' : pw_P) (I' : pw_I) (pc' : Nat) (ls' : Array Slot) (H' : Heap) (locs' : List Loc) (cells' slots' : Nat), Q v n' sh' P' I' → pw_Wd D dA g.2.2.2.2.2 n' sh' P' I' H' → va_S (fun q => g.2.2.2.2.2 ≤ q) s.heap H' locs' →
      cells' ≤ g.2.2.1 → slots' ≤ g.2.2.2.1 → pw_ret g.1 v pc' → W p l e R s m args below meth c H' locs' cells' slots' Qf (F0 m pc' ls' v.toList)) →
    W p l e R s m args below meth c H locs cells slots Qf (F0 m pc ls st)
def pm_Pc (base n : Nat) (Ag : List Value) (sh : pw_Sh) (P : pw_P) (I : pw_I) (D : va_G) (dA : Nat → ClassId) : Array Value → State → Prop := va_Pc Ag (fun U => pw_Wd D dA base n sh P I U.heap ∧ pw_K D dA U)
def pm_Qc (base : Nat) (Q : pw_Q) (D : va_G) (dA : Nat → ClassId) : Array Value → State → Outcome → State → Prop := fun _ st oc t =>
  (∃ (v : Option Value) (n' : Nat) (sh' : pw_Sh) (P' : pw_P) (I' : pw_I), oc = .returned v ∧ Q v n' sh' P' I' ∧ pw_Wd D dA base n' sh' P' I' t.heap ∧ (v = none ∨ ∃ x : Int32, v = some (.int x))) ∧ va_F (fun q => base ≤ q) st t
def pm_ws (y : pm_I) : List Cond := Cond.code y.1 y.2.1 y.2.2.1 y.2.2.2 :: pw_T
def pm_R (d mc ms : Nat) : Room := { frames := d, cells := mc, slots := ms, locals := 30 * d }
/-- the contract of a method: room for d more frames, mc cells, ms slots -/
def PM (y : pm_I) (d mc ms base : Nat) (Ag : List Value) (n : Nat) (sh : pw_Sh) (P : pw_P) (I : pw_I) (Q : pw_Q) : Prop :=
  ∀ (l : Launch) (D : va_G) (dA : Nat → ClassId), Met l y.1 (pm_ws y) (pm_R d mc ms) (pm_Pc base n Ag sh P I D dA) (pm_Qc base Q D dA) mc ms (fun q => base ≤ q)
theorem pl_args : ∀ (vs : List Value) (k : Nat), (∀ v ∈ vs, v.category = 1) → ∀ (i : Nat) (v : Value), vs[i]? = some v → (k + i, v) ∈ lv_args k vs
  | [], _, _, i, v, h => by simp at h
  | w :: vs, k, hc, i, v, h => by
    have hw : ¬ w.category = 2 := by rw [hc w List.mem_cons_self]; decide
    unfold lv_args
    rw [if_neg hw]
    cases i with
    | zero =>
      rw [List.getElem?_cons_zero] at h
      cases h
      exact List.mem_cons_self
    | succ i =>
      rw [List.getElem?_cons_succ] at h
      have := pl_args vs (k + 1) (fun v hv => hc v (List.mem_cons_of_mem _ hv)) i v h
      refine List.mem_cons_of_mem _ ?_
      rw [show k + (i + 1) = k + 1 + i by omega]
      exact this
theorem pl_sl : ∀ (vs : List Value), (∀ v ∈ vs, v.category = 1) → (lg_sl vs).length = vs.length
  | [], _ => rfl
  | w :: vs, hc => by
    have hw : ¬ w.category = 2 := by rw [hc w List.mem_cons_self]; decide
    have := pl_sl vs (fun v hv => hc v (List.mem_cons_of_mem _ hv))
    unfold lg_sl at this ⊢
    rw [List.flatMap_cons, if_neg hw, List.length_append, this]
    simp
    omega
/-- the locals at a method's entry -/
def pl_in (Ag : List Value) (n : Nat) : List (Option Value) := Ag.map some ++ List.replicate (n - Ag.length) none
theorem pl_entry {vs : List Value} {n : Nat} (hc : ∀ v ∈ vs, v.category = 1) (hn : vs.length ≤ n) : pl_has ((lg_sl vs ++ List.replicate (n - (lg_sl vs).length) Slot.unset).toArray) n (pl_in vs n) := by
  have h := lv_entry vs (n := n) (by rw [pl_sl vs hc]; exact hn)
  refine ⟨h.1, by simp [pl_in]; omega, h.2.1, fun i v hi => ?_⟩
  have hi2 : vs[i]? = some v := by
    unfold pl_in at hi
    by_cases hl : i < vs.length
    · rw [List.getElem?_append_left (by simpa using hl), List.getElem?_map] at hi
      cases hq : vs[i]? with
      | none => rw [hq] at hi; simp at hi
      | some w => rw [hq] at hi; simp at hi; rw [hi]
    · rw [List.getElem?_append_right (by simp; omega), List.getElem?_replicate] at hi
      split at hi <;> cases hi
  have hm := pl_args vs 0 hc i v hi2
  rw [Nat.zero_add] at hm
  exact ⟨h.2.2 (i, v) hm, hc v (List.mem_of_getElem? hi2)⟩
theorem PM.of_PW {y : pm_I} {d mc ms base n : Nat} {Ag : List Value} {sh : pw_Sh} {P : pw_P} {I : pw_I} {Q : pw_Q} (hy : plainName y.1.cls = true) (hc : ∀ v ∈ Ag, v.category = 1) (hn : Ag.length ≤ y.2.2.1)
    (h : PW (y, d, mc, ms, none, base) n sh P I 0 0 0 (pl_in Ag y.2.2.1) [] Q) : PM y d mc ms base Ag n sh P I Q := by
  intro l D dA
  refine Met.ofW (cc := y.2.1) (maxL := y.2.2.1) (ret := y.2.2.2) hy rfl ?_
  intro p e s m args below meth c s₁ B hml hv
  obtain ⟨rfl, hWd, hK⟩ := hv
  have hts := atoms_spec (ws := pm_ws y) B.pre
  have hname : meth.name = y.1.name := (name_of_methodNamed B.named B.method).1
  rw [lg_entry_eq]
  refine h p l e _ s m _ below meth c s.heap [] 0 0 D dA _ _ ⟨B.exec, B.bytes, B.returns, hml, findClass_of_methodNamed B.named, fun w hw => hts w (List.mem_cons_of_mem _ hw), B.notSynchronized, hK, fun e => hname.trans e, ⟨Nat.le_refl _, Nat.le_refl _, Nat.le_refl _, Nat.le_refl _⟩, ?_, fun q hq => by cases hq⟩ hWd va_S.rf (pl_entry hc hn) (Nat.le_refl _) (Nat.le_refl _) ?_
  · rw [hWd.1]
    exact Nat.le_add_right _ _
  · intro v n' sh' P' I' pc' ls' H' locs' cells' slots' hQ hW' hS' hc' hs' hret
    refine W.widen hc' hs' ?_
    have hlocks := B.notSynchronized
    cases v with
    | none =>
      obtain ⟨hd, hr⟩ := hret
      exact W.vret B.exec B.bytes (B.returns.trans hr) (fun t ht hW => ⟨⟨none, n', sh', P', I', rfl, hQ, by rw [ht]; exact hW', Or.inl rfl⟩, hS'.F ht⟩) hS'.2.2 hd hlocks
    | some v =>
      obtain ⟨hd, x, rfl, hx⟩ := hret
      obtain ⟨ty, ht1, ht2⟩ := pw_nok_narrow hx
      exact W.zret B.exec B.bytes (B.returns.trans ht1) ht2 (fun t ht hW => ⟨⟨some (.int x), n', sh', P', I', rfl, hQ, by rw [ht]; exact hW', Or.inr ⟨x, rfl⟩⟩, hS'.F ht⟩) hS'.2.2 hd hlocks
theorem pm_blind {base n : Nat} {Ag : List Value} {sh : pw_Sh} {P : pw_P} {I : pw_I} {D : va_G} {dA : Nat → ClassId} : FrameBlind (pm_Pc base n Ag sh P I D dA) := by
  intro a U g mk q
  obtain ⟨h1, h2, h3⟩ := q
  exact ⟨h1, h2, pw_K.same (u := U) (U := U.calling g mk a) rfl h3⟩
end
section
/-! reads and writes of the memory, one instruction each -/
def pw_up (I : pw_I) (a k : Nat) (v : Int32) : pw_I := fun a' k' => if a' = a ∧ k' = k then v else I a' k'
def pw_upP (P : pw_P) (a k : Nat) (v : Option Nat) : pw_P := fun a' k' => if a' = a ∧ k' = k then v else P a' k'
theorem pw_up_s {I : pw_I} {a k : Nat} {v : Int32} : pw_up I a k v a k = v := by simp [pw_up]
theorem pw_up_k {I : pw_I} {a a' k k' : Nat} {v : Int32} (h : k' ≠ k) : pw_up I a k v a' k' = I a' k' := by simp [pw_up, h]
theorem pw_up_a {I : pw_I} {a a' k k' : Nat} {v : Int32} (h : a' ≠ a) : pw_up I a k v a' k' = I a' k' := by simp [pw_up, h]
theorem pw_upP_s {P : pw_P} {a k : Nat} {v : Option Nat} : pw_upP P a k v a k = v := by simp [pw_upP]
theorem pw_upP_k {P : pw_P} {a a' k k' : Nat} {v : Option Nat} (h : k' ≠ k) : pw_upP P a k v a' k' = P a' k' := by simp [pw_upP, h]
theorem pw_upP_a {P : pw_P} {a a' k k' : Nat} {v : Option Nat} (h : a' ≠ a) : pw_upP P a k v a' k' = P a' k' := by simp [pw_upP, h]
theorem pw_val_cong {ci : Nat} {P P' : pw_P} {I I' : pw_I} {a : Nat} (hP : ∀ k, P' a k = P a k) (hI : ∀ k, I' a k = I a k) : pw_val ci P' I' a = pw_val ci P I a := by
  funext k
  unfold pw_val
  rw [hP, hI]
theorem pw_cell.kept {D : va_G} {dA : Nat → ClassId} {sh : pw_Sh} {P P' : pw_P} {I I' : pw_I} {H H' : Heap} {a : Nat} (h : pw_cell D dA sh P I H a) (hH : H'[a]? = H[a]?) (hP : ∀ k, P' a k = P a k) (hI : ∀ k, I' a k = I a k) : pw_cell D dA sh P' I' H' a := by
  have e1 : (fun j => Value.int (I' a j)) = (fun j => Value.int (I a j)) := by funext j; rw [hI]
  have e2 : (fun j => va_rf (P' a j)) = (fun j => va_rf (P a j)) := by funext j; rw [hP]
  unfold pw_cell at h ⊢
  rw [pw_val_cong hP hI, e1, e2, hH]
  exact ⟨fun hc => (h.1 hc).kept hH, h.2⟩
theorem pw_Wd.put {D : va_G} {dA : Nat → ClassId} {base n : Nat} {sh : pw_Sh} {P P' : pw_P} {I I' : pw_I} {H H' : Heap} {a : Nat} (h : pw_Wd D dA base n sh P I H) (z : H'.size = H.size) (oq : ∀ q, q ≠ a → H'[q]? = H[q]?)
    (hP : ∀ q, q ≠ a → ∀ k, P' q k = P q k) (hI : ∀ q, q ≠ a → ∀ k, I' q k = I q k) (hc : pw_cell D dA sh P' I' H' a) : pw_Wd D dA base n sh P' I' H' := by
  refine ⟨by rw [z]; exact h.1, fun q hq => ⟨(h.2 q hq).1, ?_⟩⟩
  by_cases e : q = a
  · rw [e]; exact hc
  · exact (h.2 q hq).2.kept (oq q e) (hP q e) (hI q e)
section PWH
variable {p : Program} {l : Launch} {e : Env} {R : Room} {s : State} {m : MethodId} {args : Array Value} {below : List Frame} {meth : Method} {c : Code} {H : Heap} {locs : List Loc} {cells slots : Nat} {Q : State → Prop}
variable {g : pw_g} {D : va_G} {dA : Nat → ClassId} {base n : Nat} {sh : pw_Sh} {P : pw_P} {I : pw_I} {pc : Nat} {ls : Array Slot} {rest : List Value} {cc : ByteArray}
/-- a field's link in the tables -/
def pw_fl (own : String) (idx ci k : Nat) : Prop := Cond.fieldLink own idx (pw_tb ci k).1 (pw_tb ci k).2.1 (pw_tb ci k).2.2.1 ∈ pw_T ∨ ∃ host, Cond.fieldLinkNest own idx (pw_tb ci k).1 (pw_tb ci k).2.1 (pw_tb ci k).2.2.1 host ∈ pw_N
theorem pw_getf (C : pw_ctx p s m args meth c R g D dA) (hW : pw_Wd D dA base n sh P I H) {a ci k idx : Nat} (hci : ci < 8) (hcl : pw_clok ci) (hk : k < pw_nf ci) (hsh : (sh a).1 = ci) (hfl : pw_fl g.1.1.cls idx ci k) (hdg : decode g.1.2.1 pc = .ok (.getfield idx, 3))
    (kk : W p l e R s m args below meth c H locs cells slots Q (F0 m (pc + 3) ls (pw_val ci P I a k :: rest))) : W p l e R s m args below meth c H locs cells slots Q (F0 m pc ls (.ref a :: rest)) := by
  obtain ⟨hx, hb, -, -, hown, hts, -, ⟨hK, hN, -⟩, -⟩ := C
  have hcell := (hW.2 a (by omega)).2.1 (by omega)
  rw [hsh] at hcell
  obtain ⟨cell, q1, q2, q3, q4⟩ := hcell
  obtain ⟨hcl1, hcl2, hcl3, hcl4⟩ := hcl
  obtain ⟨hS, hfc, kC, hkC, hkind⟩ := hK.1 ci _ hcl1
  obtain ⟨cf, kf, fi, f, hi, hsl⟩ := hS k hk
  have hst := (u_facts hfc hkC (u_lays hts hcl2 hk) hi).1
  rcases hfl with hfl | ⟨host, hfl⟩
  · exact W.getf hx hb hown (hts _ hfl) hi hst q1 (by rw [q3]; exact fun h => by cases h) (by rw [hsl, q4 k hk]) rfl rfl hdg kk
  · exact va_Wgetf hx hb hown (va_Nw.use rfl (hN _ hfl)) hi hst q1 (by rw [q3]; exact fun h => by cases h) (by rw [hsl, q4 k hk]) rfl rfl hdg kk
/-- a field is written: a whole number (v) or a reference (r) -/
theorem pw_putf (C : pw_ctx p s m args meth c R g D dA) (hW : pw_Wd D dA base n sh P I H) {A : Nat → Prop} (hS0 : va_S A s.heap H locs) {a ci k idx : Nat} {v : Value} {P' : pw_P} {I' : pw_I} (hA : A a) (hci : ci < 8) (hcl : pw_clok ci) (hk : k < pw_nf ci) (hsh : (sh a).1 = ci) (hfl : pw_fl g.1.1.cls idx ci k)
    (hfin : (pw_tb ci k).2.2.2 = false ∨ ((pw_tb ci k).2.2.2 = true ∧ meth.name = "<init>" ∧ (pw_tb ci k).1 = g.1.1.cls ∧ Cond.fieldLink g.1.1.cls idx (pw_tb ci k).1 (pw_tb ci k).2.1 (pw_tb ci k).2.2.1 ∈ pw_T)) (hn : narrow (pw_ty ci k) v = v) (hfit : fits (pw_ty ci k) v = true)
    (hP : ∀ q, q ≠ a → ∀ k, P' q k = P q k) (hI : ∀ q, q ≠ a → ∀ k, I' q k = I q k) (hnew : ∀ j, j < pw_nf ci → pw_val ci P' I' a j = if j = k then v else pw_val ci P I a j)
    (hdg : decode g.1.2.1 pc = .ok (.putfield idx, 3))
    (kk : ∀ (H1 : Heap) (locs1 : List Loc), pw_Wd D dA base n sh P' I' H1 → va_S A s.heap H1 locs1 → W p l e R s m args below meth c H1 locs1 cells slots Q (F0 m (pc + 3) ls rest)) : W p l e R s m args below meth c H locs cells slots Q (F0 m pc ls (v :: .ref a :: rest)) := by
  obtain ⟨hx, hb, -, -, hown, hts, -, ⟨hK, hN, -⟩, -⟩ := C
  have hcell := (hW.2 a (by omega)).2.1 (by omega)
  rw [hsh] at hcell
  obtain ⟨cell, q1, q2, q3, q4⟩ := hcell
  obtain ⟨hcl1, hcl2, hcl3, hcl4⟩ := hcl
  have hap := va_apart (own := g.1.1.cls) hts hcl2 (pw_ty ci) hcl3 hcl4 hK hcl1
  obtain ⟨hS, hfc, kC, hkC, hkind⟩ := hK.1 ci _ hcl1
  obtain ⟨cf, kf, fi, f, hi, hsl⟩ := hS k hk
  have hst := (u_facts hfc hkC (u_lays hts hcl2 hk) hi).1
  have hend : ∀ H1 : Heap, H1[a]? = some (cell.setSlot f.slot v) → H1.size = H.size → (∀ q, q ≠ a → H1[q]? = H[q]?) → W p l e R s m args below meth c H1 (locs ++ [⟨a, f.slot⟩]) cells slots Q (F0 m (pc + 3) ls rest) := by
    intro H1 e1 e2 e3
    refine kk H1 _ (hW.put e2 e3 hP hI ⟨fun _ => ?_, fun h => absurd h (by omega), fun h => absurd h (by omega)⟩) (hS0.put e2 e3 hA)
    rw [hsh]
    rw [hsl] at e1
    refine t_OB.to (V := updV (pw_val ci P I a) k v) ⟨_, e1, q2, q3, t_set q4 hap hk v⟩ (fun j hj => ?_)
    rw [hnew j hj]
    rfl
  have hlt : f.slot < cell.slots.size := by rw [hsl]; exact k2_hasslot (q4 k hk)
  rcases hfin with hfin | ⟨hfin, hin, hdecl, hflT⟩
  · have hlay := hts _ (hcl2 _ (u_in_lay hk))
    unfold u_lay at hlay
    rw [if_neg (by rw [hfin]; decide)] at hlay
    have h6 := u_store hfc hkC hkind hlay hi (hcl3 k hk) hn hfit
    rcases hfl with hfl | ⟨host, hfl⟩
    · exact W.putK hx hb (f := f) ⟨hown, hts _ hfl, ⟨_, _, _, hi⟩, hst⟩ (by rw [q2]; exact h6) q1 q3 hlt rfl rfl hdg hend
    · exact va_WputK hx hb (f := f) hown (va_Nw.use rfl (hN _ hfl)) hi hst (by rw [q2]; exact h6) q1 q3 hlt rfl rfl hdg hend
  · have h6 := u_fits hfc hkC hkind (u_lays hts hcl2 hk) hi (hcl3 k hk) hn hfit
    have hlay := hts _ (hcl2 _ (u_in_lay hk))
    unfold u_lay at hlay
    rw [if_pos hfin] at hlay
    have hcf : m.cls = cf := by
      obtain ⟨_, _, c', _, _, _, -, -, hf', -, -, -, hown2, -⟩ := Cond.laysFinal_spec hlay
      have e1 : c' = cf := by have := hi.symm.trans hf'; simp at this; exact this.1.symm
      rw [hdecl] at hown2
      rw [← e1]; exact Option.some.inj (hown.symm.trans hown2)
    exact W.putFinK hx hb hown (hts _ hflT) hi hst hcf hin (by rw [q2]; exact h6) q1 q3 hlt rfl rfl hdg hend
theorem pw_cell8 (hW : pw_Wd D dA base n sh P I H) {a : Nat} (h : (sh a).1 = 8 ∨ (sh a).1 = 9) : H[a]? = some (arrV (dA (sh a).1) (sh a).2 (fun j => .int (I a j))) := (hW.2 a (by omega)).2.2.1 h
theorem pw_cell10 (hW : pw_Wd D dA base n sh P I H) {a : Nat} (h : 10 ≤ (sh a).1 ∧ (sh a).1 ≤ 12) : H[a]? = some (arrV (dA (sh a).1) (sh a).2 (fun j => va_rf (P a j))) := (hW.2 a (by omega)).2.2.2 h
theorem pw_iald (C : pw_ctx p s m args meth c R g D dA) (hW : pw_Wd D dA base n sh P I H) {a : Nat} {i : Int32} (hsh : (sh a).1 = 8) (hin : vp_in i (sh a).2) (hdg : decode g.1.2.1 pc = .ok (.iaload, 1))
    (kk : W p l e R s m args below meth c H locs cells slots Q (F0 m (pc + 1) ls (.int (I a i.toNatClampNeg) :: rest))) : W p l e R s m args below meth c H locs cells slots Q (F0 m pc ls (.int i :: .ref a :: rest)) := by
  obtain ⟨hx, hb, -, -, hown, hts, -, ⟨hK, -⟩, -⟩ := C
  have h := pw_cell8 hW (Or.inl hsh)
  rw [hsh] at h
  have hlt : i.toNatClampNeg < (sh a).2 := Nat.not_le.mp fun q => hin (Or.inr q)
  exact W.iald (v := .int (I a i.toNatClampNeg)) hx hb h ((hK.2 0 _ rfl).1 (sh a).2 (fun j => .int (I a j))) (fun q => by cases q) (by rw [arrV_size]; exact hin) (arrV_read _ _ hlt) rfl rfl hdg kk
theorem pw_cald (C : pw_ctx p s m args meth c R g D dA) (hW : pw_Wd D dA base n sh P I H) {a : Nat} {i : Int32} (hsh : (sh a).1 = 9) (hin : vp_in i (sh a).2) (hdg : decode g.1.2.1 pc = .ok (.caload, 1))
    (kk : W p l e R s m args below meth c H locs cells slots Q (F0 m (pc + 1) ls (.int (I a i.toNatClampNeg) :: rest))) : W p l e R s m args below meth c H locs cells slots Q (F0 m pc ls (.int i :: .ref a :: rest)) := by
  obtain ⟨hx, hb, -, -, hown, hts, -, ⟨hK, -⟩, -⟩ := C
  have h := pw_cell8 hW (Or.inr hsh)
  rw [hsh] at h
  have hlt : i.toNatClampNeg < (sh a).2 := Nat.not_le.mp fun q => hin (Or.inr q)
  exact W.cald (v := .int (I a i.toNatClampNeg)) hx hb h ((hK.2 1 _ rfl).1 (sh a).2 (fun j => .int (I a j))) (fun q => by cases q) (by rw [arrV_size]; exact hin) (arrV_read _ _ hlt) rfl rfl hdg kk
theorem pw_updV {I : pw_I} {a k : Nat} {x : Int32} : updV (fun j => Value.int (I a j)) k (.int x) = fun j => Value.int (pw_up I a k x a j) := by
  funext j
  by_cases h : j = k
  · subst h; simp [updV, pw_up]
  · simp [updV, pw_up, h]
theorem pw_updP {P : pw_P} {a k : Nat} {x : Option Nat} : updV (fun j => va_rf (P a j)) k (va_rf x) = fun j => va_rf (pw_upP P a k x a j) := by
  funext j
  by_cases h : j = k
  · subst h; simp [updV, pw_upP]
  · simp [updV, pw_upP, h]
theorem pw_iast (C : pw_ctx p s m args meth c R g D dA) (hW : pw_Wd D dA base n sh P I H) {A : Nat → Prop} (hS0 : va_S A s.heap H locs) {a : Nat} {i x : Int32} (hA : A a) (hsh : (sh a).1 = 8) (hin : vp_in i (sh a).2) (hdg : decode g.1.2.1 pc = .ok (.iastore, 1))
    (kk : ∀ (H1 : Heap) (locs1 : List Loc), pw_Wd D dA base n sh P (pw_up I a i.toNatClampNeg x) H1 → va_S A s.heap H1 locs1 → W p l e R s m args below meth c H1 locs1 cells slots Q (F0 m (pc + 1) ls rest)) : W p l e R s m args below meth c H locs cells slots Q (F0 m pc ls (.int x :: .int i :: .ref a :: rest)) := by
  obtain ⟨hx, hb, -, -, hown, hts, -, ⟨hK, -⟩, -⟩ := C
  have h := pw_cell8 hW (Or.inl hsh)
  rw [hsh] at h
  refine W.iast hx hb h ((hK.2 0 _ rfl).1 (sh a).2 (fun j => .int (I a j))) (fun q => by cases q) (by rw [arrV_size]; exact hin) rfl rfl hdg fun H1 e z oq => ?_
  refine kk H1 _ (hW.put z oq (fun _ _ _ => rfl) (fun q hq k => pw_up_a hq) ⟨fun h => absurd h (by omega), fun _ => ?_, fun h => absurd h (by omega)⟩) (hS0.put z oq hA)
  rw [e, arrV_store, pw_updV, hsh]
theorem pw_cast (C : pw_ctx p s m args meth c R g D dA) (hW : pw_Wd D dA base n sh P I H) {A : Nat → Prop} (hS0 : va_S A s.heap H locs) {a : Nat} {i x : Int32} (hA : A a) (hsh : (sh a).1 = 9) (hin : vp_in i (sh a).2) (hx0 : narrow .char (.int x) = .int x) (hdg : decode g.1.2.1 pc = .ok (.castore, 1))
    (kk : ∀ (H1 : Heap) (locs1 : List Loc), pw_Wd D dA base n sh P (pw_up I a i.toNatClampNeg x) H1 → va_S A s.heap H1 locs1 → W p l e R s m args below meth c H1 locs1 cells slots Q (F0 m (pc + 1) ls rest)) : W p l e R s m args below meth c H locs cells slots Q (F0 m pc ls (.int x :: .int i :: .ref a :: rest)) := by
  obtain ⟨hx, hb, -, -, hown, hts, -, ⟨hK, -⟩, -⟩ := C
  have h := pw_cell8 hW (Or.inr hsh)
  rw [hsh] at h
  refine W.cast hx hb h ((hK.2 1 _ rfl).1 (sh a).2 (fun j => .int (I a j))) (fun q => by cases q) (by rw [arrV_size]; exact hin) rfl rfl hdg fun H1 e z oq => ?_
  refine kk H1 _ (hW.put z oq (fun _ _ _ => rfl) (fun q hq k => pw_up_a hq) ⟨fun h => absurd h (by omega), fun _ => ?_, fun h => absurd h (by omega)⟩) (hS0.put z oq hA)
  rw [e, hx0, arrV_store, pw_updV, hsh]
/-- the class of what an array of references holds -/
def pw_el : Nat → Nat
  | 10 => 4
  | 11 => 3
  | _ => 0
theorem pw_tysk {dA : Nat → ClassId} {k : Nat} (h : 10 ≤ k ∧ k ≤ 12) : (pw_tys dA)[k - 8]? = some (dA k, .object (pw_R (pw_el k))) := by
  have : k = 10 ∨ k = 11 ∨ k = 12 := by omega
  rcases this with rfl | rfl | rfl <;> rfl
theorem pw_aald (C : pw_ctx p s m args meth c R g D dA) (hW : pw_Wd D dA base n sh P I H) {a : Nat} {i : Int32} (hsh : 10 ≤ (sh a).1 ∧ (sh a).1 ≤ 12) (hin : vp_in i (sh a).2) (hdg : decode g.1.2.1 pc = .ok (.aaload, 1))
    (kk : W p l e R s m args below meth c H locs cells slots Q (F0 m (pc + 1) ls (va_rf (P a i.toNatClampNeg) :: rest))) : W p l e R s m args below meth c H locs cells slots Q (F0 m pc ls (.int i :: .ref a :: rest)) := by
  obtain ⟨hx, hb, -, -, hown, hts, -, ⟨hK, -⟩, -⟩ := C
  have hlt : i.toNatClampNeg < (sh a).2 := Nat.not_le.mp fun q => hin (Or.inr q)
  exact W.aald (v := va_rf (P a i.toNatClampNeg)) (ty := .object (pw_R (pw_el (sh a).1))) hx hb (pw_cell10 hW hsh) ((hK.2 _ _ (pw_tysk hsh)).1 (sh a).2 (fun j => va_rf (P a j))) rfl (fun q => by cases q) (by rw [arrV_size]; exact hin) (arrV_read _ _ hlt) rfl rfl hdg kk
theorem pw_alen (C : pw_ctx p s m args meth c R g D dA) (hW : pw_Wd D dA base n sh P I H) {a : Nat} (hsh : 8 ≤ (sh a).1 ∧ (sh a).1 ≤ 12) (hdg : decode g.1.2.1 pc = .ok (.arraylength, 1))
    (kk : W p l e R s m args below meth c H locs cells slots Q (F0 m (pc + 1) ls (.int (nI (sh a).2) :: rest))) : W p l e R s m args below meth c H locs cells slots Q (F0 m pc ls (.ref a :: rest)) := by
  obtain ⟨hx, hb, -, -, hown, hts, -, ⟨hK, -⟩, -⟩ := C
  by_cases h8 : (sh a).1 = 8 ∨ (sh a).1 = 9
  · have h := pw_cell8 hW h8
    rcases h8 with h8 | h8
    · rw [h8] at h
      exact W.alen (n := nI (sh a).2) hx hb h ((hK.2 0 _ rfl).1 (sh a).2 (fun j => .int (I a j))) (by rw [arrV_size]; rfl) rfl rfl hdg kk
    · rw [h8] at h
      exact W.alen (n := nI (sh a).2) hx hb h ((hK.2 1 _ rfl).1 (sh a).2 (fun j => .int (I a j))) (by rw [arrV_size]; rfl) rfl rfl hdg kk
  · have h10 : 10 ≤ (sh a).1 ∧ (sh a).1 ≤ 12 := by omega
    exact W.alen (n := nI (sh a).2) hx hb (pw_cell10 hW h10) ((hK.2 _ _ (pw_tysk h10)).1 (sh a).2 (fun j => va_rf (P a j))) (by rw [arrV_size]; rfl) rfl rfl hdg kk
/-- a reference is stored into an array of its class -/
theorem pw_aast (C : pw_ctx p s m args meth c R g D dA) (hW : pw_Wd D dA base n sh P I H) {A : Nat → Prop} (hS0 : va_S A s.heap H locs) {a v : Nat} {i : Int32} (hA : A a) (hsh : 10 ≤ (sh a).1 ∧ (sh a).1 ≤ 12) (hcl : pw_clok (pw_el (sh a).1)) (hv : (sh v).1 = pw_el (sh a).1) (hin : vp_in i (sh a).2) (hdg : decode g.1.2.1 pc = .ok (.aastore, 1))
    (kk : ∀ (H1 : Heap) (locs1 : List Loc), pw_Wd D dA base n sh (pw_upP P a i.toNatClampNeg (some v)) I H1 → va_S A s.heap H1 locs1 → W p l e R s m args below meth c H1 locs1 cells slots Q (F0 m (pc + 1) ls rest)) : W p l e R s m args below meth c H locs cells slots Q (F0 m pc ls (.ref v :: .int i :: .ref a :: rest)) := by
  obtain ⟨hx, hb, -, -, hown, hts, -, ⟨hK, -⟩, -⟩ := C
  have hel : pw_el (sh a).1 < 8 := by
    have : (sh a).1 = 10 ∨ (sh a).1 = 11 ∨ (sh a).1 = 12 := by omega
    rcases this with h | h | h <;> rw [h] <;> decide
  have hlt : i.toNatClampNeg < (sh a).2 := Nat.not_le.mp fun q => hin (Or.inr q)
  have h0 : ¬ i < 0 := fun q => hin (Or.inl q)
  obtain ⟨cellV, g1, g2, g3, -⟩ := (hW.2 v (by omega)).2.1 (by omega)
  rw [hv] at g2
  have hcls := (hK.1 _ _ hcl.1).2
  obtain ⟨kA, comp, k1, k2, k3, -⟩ := (hK.2 _ _ (pw_tysk hsh)).2
  have hcomp : comp = D.1 (pw_el (sh a).1) := Option.some.inj (k3.symm.trans hcls.1)
  subst hcomp
  obtain ⟨kC, hkC, -⟩ := hcls.2
  refine W.aast hx hb (pw_cell10 hW hsh) (fun q h => by cases h) (fun h => by cases h) k1 k2 rfl hkC ⟨h0, by rw [arrV_size]; exact hlt⟩ g1 (fun q h => by rw [g3] at h; cases h) (by rw [g2]; exact hkC) (by rw [g2]; exact va_assign hcls) rfl rfl hdg fun H1 e z oq => ?_
  refine kk H1 _ (hW.put z oq (fun q hq k => pw_upP_a hq) (fun _ _ _ => rfl) ⟨fun h => absurd h (by omega), fun h => absurd h (by omega), fun _ => ?_⟩) (hS0.put z oq hA)
  rw [e, arrV_store, show (Value.ref v) = va_rf (some v) from rfl, pw_updP]
end PWH
end
section
/-! a body's steps as a condition (sx), computed along the code (vc): what is left is plain mathematics of I -/
abbrev pm_E : Type := Instr × Nat × Nat × Nat × Nat × Int32 × List (Int32 × Nat)
abbrev pw_C : Type := Nat → List Value → pw_I → (Option Value → pw_I → Prop) → Prop
abbrev pw_Kt : Type := Nat → List (Option Value) → List Value → pw_I → Prop
def s_i (st : List Value) (k : Int32 → List Value → Prop) : Prop := match st with
  | .int x :: r => k x r
  | _ => False
def s_r (st : List Value) (k : Nat → List Value → Prop) : Prop := match st with
  | .ref x :: r => k x r
  | _ => False
def s_v (st : List Value) (k : Value → List Value → Prop) : Prop := match st with
  | .int x :: r => k (.int x) r
  | .ref x :: r => k (.ref x) r
  | _ => False
def s_l : List (Option Value) → Nat → (Value → Prop) → Prop
  | some v :: _, 0, k => k v
  | _ :: L, j + 1, k => s_l L j k
  | _, _, _ => False
def s_a : Nat → List Value → List Value → (List Value → List Value → Prop) → Prop
  | 0, st, acc, k => k acc st
  | n + 1, v :: st, acc, k => s_a n st (v :: acc) k
  | _, _, _, _ => False
def s_m : Nat → List Value → Prop
  | _, [] => True
  | n + 1, .int _ :: r => s_m n r
  | n + 1, .ref _ :: r => s_m n r
  | _, _ => False
def s_w : List (Int32 × Nat) → Int32 → Nat → (Nat → Prop) → Prop
  | [], _, d, k => k d
  | (c, t) :: r, x, d, k => (x = c → k t) ∧ (¬ x = c → s_w r x d k)
def s_c (c : ClassFile.Cond) (x y : Int32) : Prop := match c with
  | .eq => x = y
  | .ne => ¬ x = y
  | .lt => x < y
  | .ge => y ≤ x
  | .gt => y < x
  | .le => x ≤ y
def s_p (c : ClassFile.Cond) (x y : Int32) (A B : Prop) : Prop := match c with
  | .eq => (x = y → A) ∧ (¬ x = y → B)
  | .ne => (¬ x = y → A) ∧ (x = y → B)
  | .lt => (x < y → A) ∧ (¬ x < y → B)
  | .ge => (y ≤ x → A) ∧ (¬ y ≤ x → B)
  | .gt => (y < x → A) ∧ (¬ y < x → B)
  | .le => (x ≤ y → A) ∧ (¬ x ≤ y → B)
/-- one instruction: i, the next place, three numbers, a whole number, a switch's table -/
def sx (ret : Option FieldType) (n : Nat) (sh : pw_Sh) (P : pw_P) (C : pw_C) (Q : pw_Q) (i : Instr) (nx a b c : Nat) (v : Int32) (sw : List (Int32 × Nat)) (L : List (Option Value)) (st : List Value) (I : pw_I) (K : pw_Kt) : Prop := match i with
  | .iconst _ => K nx L (.int v :: st) I
  | .bipush _ => K nx L (.int v :: st) I
  | .sipush _ => K nx L (.int v :: st) I
  | .ldc _ => K nx L (.int v :: st) I
  | .ldc_w _ => K nx L (.int v :: st) I
  | .iload_n j => s_l L j.val fun w => s_i [w] fun x _ => K nx L (.int x :: st) I
  | .iload j => s_l L j fun w => s_i [w] fun x _ => K nx L (.int x :: st) I
  | .aload_n j => s_l L j.val fun w => s_r [w] fun x _ => K nx L (.ref x :: st) I
  | .aload j => s_l L j fun w => s_r [w] fun x _ => K nx L (.ref x :: st) I
  | .istore_n j => s_i st fun x r => j.val < L.length ∧ K nx (L.set j.val (some (.int x))) r I
  | .istore j => s_i st fun x r => j < L.length ∧ K nx (L.set j (some (.int x))) r I
  | .astore_n j => s_r st fun x r => j.val < L.length ∧ K nx (L.set j.val (some (.ref x))) r I
  | .astore j => s_r st fun x r => j < L.length ∧ K nx (L.set j (some (.ref x))) r I
  | .iinc j _ => s_l L j fun w => s_i [w] fun x _ => K nx (L.set j (some (.int (x + v)))) st I
  | .iadd => s_i st fun y r => s_i r fun x r => K nx L (.int (x + y) :: r) I
  | .isub => s_i st fun y r => s_i r fun x r => K nx L (.int (x - y) :: r) I
  | .imul => s_i st fun y r => s_i r fun x r => K nx L (.int (x * y) :: r) I
  | .iand => s_i st fun y r => s_i r fun x r => K nx L (.int (x &&& y) :: r) I
  | .ior => s_i st fun y r => s_i r fun x r => K nx L (.int (x ||| y) :: r) I
  | .ixor => s_i st fun y r => s_i r fun x r => K nx L (.int (x ^^^ y) :: r) I
  | .idiv => s_i st fun y r => s_i r fun x r => ¬ y = 0 ∧ K nx L (.int (x / y) :: r) I
  | .irem => s_i st fun y r => s_i r fun x r => ¬ y = 0 ∧ K nx L (.int (x - x / y * y) :: r) I
  | .ishl => s_i st fun y r => s_i r fun x r => K nx L (.int (x <<< (y &&& 31)) :: r) I
  | .ishr => s_i st fun y r => s_i r fun x r => K nx L (.int (x >>> (y &&& 31)) :: r) I
  | .iushr => s_i st fun y r => s_i r fun x r => K nx L (.int (x.toUInt32 >>> (y.toUInt32 &&& Int32.toUInt32 31)).toInt32 :: r) I
  | .i2c => s_i st fun x r => K nx L (.int (x.toUInt32 % 65536).toInt32 :: r) I
  | .dup => s_v st fun x r => K nx L (x :: x :: r) I
  | .dup2 => s_v st fun x r => s_v r fun y r => K nx L (x :: y :: x :: y :: r) I
  | .pop => s_v st fun _ r => K nx L r I
  | .goto _ => K a L st I
  | .ifCond cd _ => s_i st fun x r => s_p cd x 0 (K a L r I) (K nx L r I)
  | .if_icmp cd _ => s_i st fun y r => s_i r fun x r => s_p cd x y (K a L r I) (K nx L r I)
  | .tableswitch _ _ _ _ => s_i st fun x r => s_w sw x a (fun t => K t L r I)
  | .lookupswitch _ _ => s_i st fun x r => s_w sw x a (fun t => K t L r I)
  | .getfield _ => s_r st fun o r => (sh o).1 = a ∧ K nx L ((match sw with
    | [] => .int (I o b)
    | _ => va_rf (P o b)) :: r) I
  | .putfield _ => s_i st fun x r => s_r r fun o r => (sh o).1 = a ∧ (match sw with
    | [] => True
    | _ => x = 0 ∨ x = 1) ∧ K nx L r (pw_up I o b x)
  | .iaload => s_i st fun j r => s_r r fun o r => (sh o).1 = 8 ∧ vp_in j (sh o).2 ∧ K nx L (.int (I o j.toNatClampNeg) :: r) I
  | .caload => s_i st fun j r => s_r r fun o r => (sh o).1 = 9 ∧ vp_in j (sh o).2 ∧ K nx L (.int (I o j.toNatClampNeg) :: r) I
  | .aaload => s_i st fun j r => s_r r fun o r => (10 ≤ (sh o).1 ∧ (sh o).1 ≤ 12) ∧ vp_in j (sh o).2 ∧ K nx L (va_rf (P o j.toNatClampNeg) :: r) I
  | .iastore => s_i st fun x r => s_i r fun j r => s_r r fun o r => (sh o).1 = 8 ∧ vp_in j (sh o).2 ∧ K nx L r (pw_up I o j.toNatClampNeg x)
  | .castore => s_i st fun x r => s_i r fun j r => s_r r fun o r => (sh o).1 = 9 ∧ vp_in j (sh o).2 ∧ pw_nok (some .char) x ∧ K nx L r (pw_up I o j.toNatClampNeg x)
  | .arraylength => s_r st fun o r => (8 ≤ (sh o).1 ∧ (sh o).1 ≤ 12) ∧ K nx L (.int (nI (sh o).2) :: r) I
  | .invokestatic _ => s_a b st [] fun Ag r => s_m 8 r ∧ C a Ag I (fun w I' => K nx L (w.toList ++ r) I')
  | .invokevirtual _ => s_a b st [] fun Ag r => s_r r fun o r => (sh o).1 = c ∧ s_m 8 r ∧ C a (.ref o :: Ag) I (fun w I' => K nx L (w.toList ++ r) I')
  | .ireturn => s_i st fun x r => r = [] ∧ pw_nok ret x ∧ Q (some (.int x)) n sh P I
  | .return_ => st = [] ∧ ret = none ∧ Q none n sh P I
  | _ => False
/-- the table of a method's code: each entry as the bytes have it -/
def pm_tgt (pc : Nat) (off : Int) (t : Nat) : Bool := decide ((pc : Int) + off = (t : Int))
/-- how a call is linked -/
def pm_ln (own : String) (idx : Nat) (y : pm_I) (nargs : Nat) : Prop :=
  Cond.code y.1 y.2.1 y.2.2.1 y.2.2.2 ∈ pw_T ∧ Cond.initialized y.1.cls ∈ pw_T ∧ (Cond.methodLink own idx y.1 ∈ pw_T ∨ ∃ host, Cond.methodLinkNest own idx y.1 host ∈ pw_N) ∧
  (y.1.cls ≠ "java/lang/invoke/MethodHandle" ∧ y.1.cls ≠ "java/lang/invoke/VarHandle" ∧ (parseMethodDescriptor y.1.desc).map (fun d => d.parameters.length) = some nargs) ∧ y.2.2.1 ≤ 11
def pm_lnS (own : String) (idx : Nat) (y : pm_I) (nargs : Nat) : Prop := pm_ln own idx y nargs ∧ Cond.static y.1 ∈ pw_T
def pm_lnV (own : String) (idx : Nat) (y : pm_I) (nargs c : Nat) : Prop := pm_ln own idx y nargs ∧ Cond.instanceMethod y.1 ∈ pw_T ∧ Cond.selects y.1.cls y.1 y.1 ∈ pw_T ∧ c < 8 ∧ pw_R c = y.1.cls ∧ pw_clok c
/-- the field (class ci, slot k) of an entry -/
def pm_ok (y : pm_I) (Ms : Nat → pm_I) (pc : Nat) (q : pm_E) : Prop := match q with
  | (i, nx, a, b, c, v, sw) => decode y.2.1 pc = .ok (i, nx - pc) ∧ pc < nx ∧ match i with
    | .iconst x => nx = pc + 1 ∧ Int32.ofInt x = v
    | .bipush x => nx = pc + 2 ∧ (Int8.ofInt x).toInt32 = v
    | .sipush x => nx = pc + 3 ∧ (Int16.ofInt x).toInt32 = v
    | .ldc x => nx = pc + 2 ∧ Cond.constant y.1.cls x v ∈ pw_T
    | .ldc_w x => nx = pc + 3 ∧ Cond.constant y.1.cls x v ∈ pw_T
    | .iload _ => nx = pc + 2
    | .aload _ => nx = pc + 2
    | .istore _ => nx = pc + 2
    | .astore _ => nx = pc + 2
    | .iinc _ x => nx = pc + 3 ∧ Int32.ofInt x = v
    | .goto off => nx = pc + 3 ∧ (pc : Int) + off = (a : Int)
    | .ifCond _ off => nx = pc + 3 ∧ (pc : Int) + off = (a : Int)
    | .if_icmp _ off => nx = pc + 3 ∧ (pc : Int) + off = (a : Int)
    | .tableswitch d lo hi offs => (pc : Int) + d = (a : Int) ∧ -2147483648 ≤ lo ∧ hi < 2147483648 ∧ offs.size = (hi + 1 - lo).toNat ∧ sw = (List.range offs.size).map (fun (j : Nat) => (Int32.ofInt (lo + (j : Int)), ((pc : Int) + offs.getD j 0).toNat)) ∧ (List.range offs.size).all (fun (j : Nat) => decide (0 ≤ (pc : Int) + offs.getD j 0)) = true
    | .lookupswitch d ps => (pc : Int) + d = (a : Int) ∧ (ps.toList.zip (ps.toList.drop 1)).all (fun (a, next) => a.1 < next.1) = true ∧ sw = ps.toList.map (fun q => (Int32.ofInt q.1, ((pc : Int) + q.2).toNat)) ∧ ps.toList.all (fun q => decide (0 ≤ (pc : Int) + q.2 ∧ -2147483648 ≤ q.1 ∧ q.1 < 2147483648)) = true
    | .getfield x => nx = pc + 3 ∧ a < 8 ∧ pw_clok a ∧ b < pw_nf a ∧ pw_fl y.1.cls x a b ∧ pw_rf a b = (match sw with
      | [] => false
      | _ => true)
    | .putfield x => nx = pc + 3 ∧ a < 8 ∧ pw_clok a ∧ b < pw_nf a ∧ pw_fl y.1.cls x a b ∧ pw_rf a b = false ∧ (pw_tb a b).2.2.2 = false ∧ (match sw with
      | [] => pw_ty a b = .int
      | _ => pw_ty a b = .boolean)
    | .invokestatic x => nx = pc + 3 ∧ pm_lnS y.1.cls x (Ms a) b
    | .invokevirtual x => nx = pc + 3 ∧ pm_lnV y.1.cls x (Ms a) b c
    | _ => nx = pc + 1
theorem s_p_of {c : ClassFile.Cond} {x y : Int32} {A B : Prop} (h : s_p c x y A B) : (s_c c x y → A) ∧ (¬ s_c c x y → B) := by
  cases c <;> first | exact h | exact ⟨h.1, fun q => h.2 (Classical.not_not.mp q)⟩
theorem s_w_of {sw : List (Int32 × Nat)} {x : Int32} {d : Nat} {k : Nat → Prop} (h : s_w sw x d k) : (∃ t, (x, t) ∈ sw ∧ k t ∧ ∃ i : Nat, sw[i]? = some (x, t) ∧ ∀ j : Nat, j < i → ∀ q, sw[j]? = some q → q.1 ≠ x) ∨ ((∀ q ∈ sw, q.1 ≠ x) ∧ k d) := by
  induction sw with
  | nil => exact Or.inr ⟨fun q hq => (by cases hq), h⟩
  | cons q r ih =>
    obtain ⟨c, t⟩ := q
    by_cases e : x = c
    · subst e
      exact Or.inl ⟨t, List.mem_cons_self, h.1 rfl, 0, rfl, fun j hj => absurd hj (Nat.not_lt_zero j)⟩
    · rcases ih (h.2 e) with ⟨t', h1, h2, i, h3, h4⟩ | ⟨h1, h2⟩
      · refine Or.inl ⟨t', List.mem_cons_of_mem _ h1, h2, i + 1, by rw [List.getElem?_cons_succ]; exact h3, fun j hj q hq => ?_⟩
        cases j with
        | zero => rw [List.getElem?_cons_zero] at hq; cases hq; exact fun z => e z.symm
        | succ j => rw [List.getElem?_cons_succ] at hq; exact h4 j (by omega) q hq
      · refine Or.inr ⟨fun q hq => ?_, h2⟩
        rcases List.mem_cons.mp hq with rfl | hq
        · exact fun z => e z.symm
        · exact h1 q hq
theorem s_l_of {L : List (Option Value)} {j : Nat} {k : Value → Prop} (h : s_l L j k) : ∃ v, L[j]? = some (some v) ∧ k v := by
  induction L generalizing j with
  | nil => cases j <;> exact h.elim
  | cons o L ih =>
    cases j with
    | zero =>
      cases o with
      | none => exact h.elim
      | some v => exact ⟨v, rfl, h⟩
    | succ j =>
      have h' : s_l L j k := by cases o <;> exact h
      obtain ⟨v, h1, h2⟩ := ih h'
      exact ⟨v, by rw [List.getElem?_cons_succ]; exact h1, h2⟩
theorem s_i_of {st : List Value} {k : Int32 → List Value → Prop} (h : s_i st k) : ∃ x r, st = .int x :: r ∧ k x r := by
  unfold s_i at h
  split at h
  · exact ⟨_, _, rfl, h⟩
  · exact h.elim
theorem s_r_of {st : List Value} {k : Nat → List Value → Prop} (h : s_r st k) : ∃ x r, st = .ref x :: r ∧ k x r := by
  unfold s_r at h
  split at h
  · exact ⟨_, _, rfl, h⟩
  · exact h.elim
theorem s_v_of {st : List Value} {k : Value → List Value → Prop} (h : s_v st k) : ∃ x r, st = x :: r ∧ x.category = 1 ∧ k x r := by
  unfold s_v at h
  split at h
  · exact ⟨_, _, rfl, rfl, h⟩
  · exact ⟨_, _, rfl, rfl, h⟩
  · exact h.elim
theorem s_a_of : ∀ {n : Nat} {st acc : List Value} {k : List Value → List Value → Prop}, s_a n st acc k → ∃ As r, As.length = n ∧ st = As.reverse ++ r ∧ k (As ++ acc) r
  | 0, st, acc, k, h => ⟨[], st, rfl, rfl, h⟩
  | n + 1, [], acc, k, h => h.elim
  | n + 1, v :: st, acc, k, h => by
    obtain ⟨As, r, h1, h2, h3⟩ := s_a_of (n := n) (st := st) (acc := v :: acc) (k := k) h
    refine ⟨As ++ [v], r, by simp [h1], by simp [h2], by simpa using h3⟩
theorem s_m_of : ∀ {n : Nat} {st : List Value}, s_m n st → (st.map fun v => v.category).sum ≤ n
  | n, [], _ => by simp
  | 0, v :: r, h => by cases v <;> exact h.elim
  | n + 1, v :: r, h => by
    cases v with
    | int x =>
      have := s_m_of (n := n) (st := r) h
      rw [List.map_cons, List.sum_cons]
      show 1 + _ ≤ n + 1
      omega
    | ref x =>
      have := s_m_of (n := n) (st := r) h
      rw [List.map_cons, List.sum_cons]
      show 1 + _ ≤ n + 1
      omega
    | _ => exact h.elim
end
section
/-! the calls, and that a body's condition (sx, vc) is enough -/
section PWC
variable {p : Program} {l : Launch} {e : Env} {R : Room} {s : State} {m : MethodId} {args : Array Value} {below : List Frame} {meth : Method} {c : Code} {H : Heap} {locs : List Loc} {cells slots : Nat} {Q : State → Prop}
variable {pc : Nat} {ls : Array Slot} {rest st0 : List Value} {a : Array Value} {base mc ms : Nat} {D : va_G} {dA : Nat → ClassId} {Qc : pw_Q}
theorem pw_run (hr : va_Run p l e R s m args below meth c H locs cells slots mc ms (F0 m pc ls st0) rest (pm_Qc base Qc D dA a) (fun q => base ≤ q)) (hS : va_S (fun q => base ≤ q) s.heap H locs)
    (kk : ∀ (v : Option Value) (n' : Nat) (sh' : pw_Sh) (P' : pw_P) (I' : pw_I) (H1 : Heap) (locs1 : List Loc), Qc v n' sh' P' I' → pw_Wd D dA base n' sh' P' I' H1 → va_S (fun q => base ≤ q) s.heap H1 locs1 → (v = none ∨ ∃ x : Int32, v = some (.int x)) → W p l e R s m args below meth c H1 locs1 (cells + mc) (slots + ms) Q (F0 m (pc + 3) ls (v.toList ++ rest))) :
    W p l e R s m args below meth c H locs cells slots Q (F0 m pc ls st0) := by
  intro T hT X
  obtain ⟨v, st₀, t, T', L, h0, X', hL, e1, e2, ⟨⟨v', n', sh', P', I', hv, hq, hw, hvok⟩, hz, hk⟩, st⟩ := hr T hT X
  cases hv
  rw [h0] at hz hk
  rw [← e1] at hw hz
  obtain ⟨t2, a1, b1⟩ := kk v n' sh' P' I' T'.heap (locs ++ L) hq hw
    ⟨Nat.le_trans hS.1 hz, fun q h1 h2 => by rw [e1, hk q (Nat.lt_of_lt_of_le h1 hS.1) h2]; exact hS.2.1 q h1 h2, fun q hq => by
      rcases List.mem_append.mp hq with h | h
      · exact hS.2.2 q h
      · exact hL q h⟩ hvok T' rfl X'
  exact ⟨t2, st t2 a1, b1⟩
theorem pm_lB {g : pw_g} (C : pw_ctx p s m args meth c R g D dA) {y : pm_I} {d' mc' ms' idx nargs : Nat} (hd : d' < g.2.1) (hl : pm_ln g.1.1.cls idx y nargs) :
    (pm_R d' mc' ms').frames + 1 ≤ R.frames ∧ 8 + (y.2.2.1 + 11) + (pm_R d' mc' ms').locals ≤ R.locals := by
  obtain ⟨-, -, -, -, -, -, -, -, -, ⟨r1, r2, -⟩, -⟩ := C
  have h11 := hl.2.2.2.2
  show d' + 1 ≤ R.frames ∧ 8 + (y.2.2.1 + 11) + 30 * d' ≤ R.locals
  omega
theorem pw_recv {n : Nat} {sh : pw_Sh} {P : pw_P} {I : pw_I} (hK : pw_K D dA s) (hW : pw_Wd D dA base n sh P I H) {b k : Nat} (hk : k < 8) (hcl : pw_clok k) (hsh : (sh b).1 = k) : ∃ cell : Cell, H[b]? = some cell ∧ cell.vm.isStatics = false ∧ s.vm.findClass (pw_R k) = some cell.cls := by
  obtain ⟨cell, q1, q2, q3, -⟩ := (hW.2 b (by omega)).2.1 (by omega)
  rw [hsh] at q2
  exact ⟨cell, q1, by rw [q3]; rfl, by rw [q2]; exact (hK.1.1 k _ hcl.1).2.1⟩
end PWC
section PWD
variable {g : pw_g} {n : Nat} {sh : pw_Sh} {P : pw_P} {I : pw_I} {uc us pc : Nat} {L : List (Option Value)} {Q : pw_Q}
theorem PW.callV {y : pm_I} {d' mc' ms' k b idx : Nat} {As r : List Value} {Qc : pw_Q} (hM : PM y d' mc' ms' g.2.2.2.2.2 (.ref b :: As) n sh P I Qc) (hd : d' < g.2.1) (hmc : uc + mc' ≤ g.2.2.1) (hms : us + ms' ≤ g.2.2.2.1)
    (hl : pm_lnV g.1.1.cls idx y As.length k) (hsh : (sh b).1 = k) (hm : s_m 8 r) (hdg : decode g.1.2.1 pc = .ok (.invokevirtual idx, 3))
    (kk : ∀ v n' sh' P' I', Qc v n' sh' P' I' → PW g n' sh' P' I' (uc + mc') (us + ms') (pc + 3) L (v.toList ++ r) Q) : PW g n sh P I uc us pc L (As.reverse ++ .ref b :: r) Q := by
  intro p l e R s m args below meth c H locs cells slots D dA ls Qf C hW hS hls hc hs hr
  have hB := pm_lB (mc' := mc') (ms' := ms') C hd hl.1
  obtain ⟨hx, hb, hrt, hml, hown, hts, hlk, hK, hin, ⟨r1, r2, r3, r4⟩, hbs, hX⟩ := id C
  obtain ⟨⟨l1, l2, l3, l4, l5⟩, l6, l7, l8, l9, l10⟩ := hl
  have hrec := pw_recv hK hW l8 l10 hsh
  rw [l9] at hrec
  have hpre : PreV s H y.1.cls b (pm_Pc g.2.2.2.2.2 n (.ref b :: As) sh P I D dA) As := ⟨pm_blind, hrec, fun U hU hWm => ⟨rfl, by rw [hU]; exact hW, hK.warm hWm⟩⟩
  have hkk : ∀ (v : Option Value) (n' : Nat) (sh' : pw_Sh) (P' : pw_P) (I' : pw_I) (H1 : Heap) (locs1 : List Loc), Qc v n' sh' P' I' → pw_Wd D dA g.2.2.2.2.2 n' sh' P' I' H1 → va_S (fun q => g.2.2.2.2.2 ≤ q) s.heap H1 locs1 → (v = none ∨ ∃ x : Int32, v = some (.int x)) → W p l e R s m args below meth c H1 locs1 (cells + mc') (slots + ms') Qf (F0 m (pc + 3) ls (v.toList ++ r)) :=
    fun v n' sh' P' I' H1 locs1 h1 h2 h3 _ => kk v n' sh' P' I' h1 p l e R s m args below meth c H1 locs1 _ _ D dA ls Qf C h2 h3 hls (by omega) (by omega) hr
  have hfit : cells + mc' ≤ R.cells ∧ slots + ms' ≤ R.slots := ⟨by omega, by omega⟩
  rcases l3 with l3 | ⟨host, l3⟩
  · exact pw_run (va_runV (As := As) (rest := r) (g := F0 m pc ls (As.reverse ++ .ref b :: r)) ⟨hx, hb, hml, hown, hts⟩ (hM l D dA) ⟨callB_of As.length hts (pw_goodT l1) rfl rfl rfl (hts _ l2) (hts _ l3) l4 hB, hts _ l6, hts _ l7⟩ hpre rfl rfl hls.1 rfl (lv_room (s_m_of hm)) hdg hfit) hS hkk
  · exact pw_run (va_runVN (As := As) (rest := r) (g := F0 m pc ls (As.reverse ++ .ref b :: r)) ⟨hx, hb, hml, hown, hts⟩ (hM l D dA) ⟨va_cnB As.length hts (pw_goodT l1) rfl rfl rfl (hK.2.1 _ l3) (hts _ l2) l4 hB, hts _ l6, hts _ l7⟩ hpre rfl rfl hls.1 rfl (lv_room (s_m_of hm)) hdg hfit) hS hkk
theorem PW.callS {y : pm_I} {d' mc' ms' idx : Nat} {As r : List Value} {Qc : pw_Q} (hM : PM y d' mc' ms' g.2.2.2.2.2 As n sh P I Qc) (hd : d' < g.2.1) (hmc : uc + mc' ≤ g.2.2.1) (hms : us + ms' ≤ g.2.2.2.1)
    (hl : pm_lnS g.1.1.cls idx y As.length) (hm : s_m 8 r) (hdg : decode g.1.2.1 pc = .ok (.invokestatic idx, 3))
    (kk : ∀ v n' sh' P' I', Qc v n' sh' P' I' → PW g n' sh' P' I' (uc + mc') (us + ms') (pc + 3) L (v.toList ++ r) Q) : PW g n sh P I uc us pc L (As.reverse ++ r) Q := by
  intro p l e R s m args below meth c H locs cells slots D dA ls Qf C hW hS hls hc hs hr
  have hB := pm_lB (mc' := mc') (ms' := ms') C hd hl.1
  obtain ⟨hx, hb, hrt, hml, hown, hts, hlk, hK, hin, ⟨r1, r2, r3, r4⟩, hbs, hX⟩ := id C
  obtain ⟨⟨l1, l2, l3, l4, l5⟩, l6⟩ := hl
  have hpre : PreS s H (pm_Pc g.2.2.2.2.2 n As sh P I D dA) As := ⟨pm_blind, fun U hU hWm => ⟨rfl, by rw [hU]; exact hW, hK.warm hWm⟩⟩
  have hkk : ∀ (v : Option Value) (n' : Nat) (sh' : pw_Sh) (P' : pw_P) (I' : pw_I) (H1 : Heap) (locs1 : List Loc), Qc v n' sh' P' I' → pw_Wd D dA g.2.2.2.2.2 n' sh' P' I' H1 → va_S (fun q => g.2.2.2.2.2 ≤ q) s.heap H1 locs1 → (v = none ∨ ∃ x : Int32, v = some (.int x)) → W p l e R s m args below meth c H1 locs1 (cells + mc') (slots + ms') Qf (F0 m (pc + 3) ls (v.toList ++ r)) :=
    fun v n' sh' P' I' H1 locs1 h1 h2 h3 _ => kk v n' sh' P' I' h1 p l e R s m args below meth c H1 locs1 _ _ D dA ls Qf C h2 h3 hls (by omega) (by omega) hr
  have hfit : cells + mc' ≤ R.cells ∧ slots + ms' ≤ R.slots := ⟨by omega, by omega⟩
  rcases l3 with l3 | ⟨host, l3⟩
  · exact pw_run (va_runS (As := As) (rest := r) (g := F0 m pc ls (As.reverse ++ r)) ⟨hx, hb, hml, hown, hts⟩ (hM l D dA) ⟨callB_of As.length hts (pw_goodT l1) rfl rfl rfl (hts _ l2) (hts _ l3) l4 hB, hts _ l6⟩ hpre rfl rfl hls.1 rfl (lv_room (s_m_of hm)) hdg hfit) hS hkk
  · exact pw_run (va_runSN (As := As) (rest := r) (g := F0 m pc ls (As.reverse ++ r)) ⟨hx, hb, hml, hown, hts⟩ (hM l D dA) ⟨va_cnB As.length hts (pw_goodT l1) rfl rfl rfl (hK.2.1 _ l3) (hts _ l2) l4 hB, hts _ l6, trivial⟩ hpre rfl rfl hls.1 rfl (lv_room (s_m_of hm)) hdg hfit) hS hkk
/-- a callee whose contract is at hand, which makes nothing -/
def pw_cal (g : pw_g) (n : Nat) (sh : pw_Sh) (P : pw_P) (Ms : Nat → pm_I) (a : Nat) (Ag : List Value) (I : pw_I) (K : Option Value → pw_I → Prop) : Prop :=
  ∃ d', d' < g.2.1 ∧ PM (Ms a) d' 0 0 g.2.2.2.2.2 Ag n sh P I (fun v n' sh' P' I' => n' = n ∧ sh' = sh ∧ P' = P ∧ K v I')
theorem int_ofInt_toInt {z : Int} (h1 : -2147483648 ≤ z) (h2 : z < 2147483648) : (Int32.ofInt z).toInt = z := Int32.toInt_ofInt_of_le h1 h2
theorem int_range (x : Int32) : -2147483648 ≤ x.toInt ∧ x.toInt < 2147483648 := ⟨Int32.le_toInt x, Int32.toInt_lt x⟩
theorem ps_lookup {ps : List (Int × Int)} {d : Int} {pc : Nat} {x : Int32} (hall : ps.all (fun q => decide (0 ≤ (pc : Int) + q.2 ∧ -2147483648 ≤ q.1 ∧ q.1 < 2147483648)) = true) {k : Nat → Prop} {a : Nat} (ha : (pc : Int) + d = (a : Int))
    (h : s_w (ps.map (fun q => (Int32.ofInt q.1, ((pc : Int) + q.2).toNat))) x a k) : ∃ t : Nat, (pc : Int) + Op.lookupswitch.offset ps d x.toInt = (t : Int) ∧ k t := by
  induction ps with
  | nil => exact ⟨a, ha, h⟩
  | cons q r ih =>
    rw [List.all_cons, Bool.and_eq_true, decide_eq_true_eq] at hall
    obtain ⟨⟨h0, h1, h2⟩, hall⟩ := hall
    obtain ⟨key, off⟩ := q
    have hkey : (Int32.ofInt key).toInt = key := int_ofInt_toInt h1 h2
    by_cases e : x = Int32.ofInt key
    · refine ⟨((pc : Int) + off).toNat, ?_, h.1 e⟩
      rw [Op.lookupswitch.offset_cons, if_pos (by rw [e, hkey])]
      exact (Int.toNat_of_nonneg h0).symm
    · obtain ⟨t, t1, t2⟩ := ih hall (h.2 e)
      refine ⟨t, ?_, t2⟩
      rw [lv_osw e hkey]
      exact t1
end PWD
end
section
/-! an instruction's condition is enough; and so is a whole stretch's (vc) -/
theorem ps_table {lo hi d : Int} {offs : Array Int} {pc a : Nat} {x : Int32} {k : Nat → Prop} (ha : (pc : Int) + d = (a : Int)) (hlo : -2147483648 ≤ lo) (hhi : hi < 2147483648) (hs : offs.size = (hi + 1 - lo).toNat)
    (hall : (List.range offs.size).all (fun (j : Nat) => decide (0 ≤ (pc : Int) + offs.getD j 0)) = true) (h : s_w ((List.range offs.size).map (fun (j : Nat) => (Int32.ofInt (lo + (j : Int)), ((pc : Int) + offs.getD j 0).toNat))) x a k) :
    ((x.toInt < lo ∨ hi < x.toInt) ∧ k a) ∨ (¬ x.toInt < lo ∧ ¬ hi < x.toInt ∧ ∃ (off : Int) (t : Nat), offs[(x.toInt - lo).toNat]? = some off ∧ (pc : Int) + off = (t : Int) ∧ k t) := by
  have hkey : ∀ j : Nat, j < offs.size → (Int32.ofInt (lo + (j : Int))).toInt = lo + (j : Int) := fun j hj => int_ofInt_toInt (by omega) (by omega)
  rcases s_w_of h with ⟨t, h1, h2, -⟩ | ⟨h1, h2⟩
  · refine Or.inr ?_
    obtain ⟨j, hj, hq⟩ := List.mem_map.mp h1
    have hj' := List.mem_range.mp hj
    cases hq
    have e := hkey j hj'
    rw [e]
    refine ⟨by omega, by omega, offs.getD j 0, _, ?_, ?_, h2⟩
    · rw [show (lo + (j : Int) - lo).toNat = j by omega]
      rw [Array.getD_eq_getD_getElem?, Array.getElem?_eq_getElem hj']
      rfl
    · have := List.all_eq_true.mp hall j hj
      rw [decide_eq_true_eq] at this
      exact (Int.toNat_of_nonneg this).symm
  · refine Or.inl ⟨?_, h2⟩
    by_cases e1 : x.toInt < lo
    · exact Or.inl e1
    · by_cases e2 : hi < x.toInt
      · exact Or.inr e2
      · exfalso
        have hj : (x.toInt - lo).toNat < offs.size := by omega
        refine h1 _ (List.mem_map.mpr ⟨(x.toInt - lo).toNat, List.mem_range.mpr hj, rfl⟩) ?_
        refine Int32.toInt_inj.mp ?_
        show (Int32.ofInt (lo + ((x.toInt - lo).toNat : Int))).toInt = _
        rw [hkey _ hj]
        omega
section PWX
variable {g : pw_g} {n : Nat} {sh : pw_Sh} {P : pw_P} {I : pw_I} {uc us pc : Nat} {L : List (Option Value)} {st : List Value} {Q : pw_Q}
set_option maxHeartbeats 4000000 in
theorem pw_sxs {Ms : Nat → pm_I} {C : pw_C} {K : pw_Kt} {i : Instr} {nx a b c : Nat} {v : Int32} {sw : List (Int32 × Nat)} (ok : pm_ok g.1 Ms pc (i, nx, a, b, c, v, sw)) (hu : uc ≤ g.2.2.1 ∧ us ≤ g.2.2.2.1)
    (hC : ∀ a Ag I K, C a Ag I K → pw_cal g n sh P Ms a Ag I K) (hK : ∀ pc' L' st' I', K pc' L' st' I' → PW g n sh P I' uc us pc' L' st' Q)
    (h : sx g.1.2.2.2 n sh P C Q i nx a b c v sw L st I K) : PW g n sh P I uc us pc L st Q := by
  by_cases hinv : ∃ x, i = .invokestatic x ∨ i = .invokevirtual x
  · obtain ⟨x, rfl | rfl⟩ := hinv
    · obtain ⟨hd, -, rfl, hl⟩ := ok
      rw [Nat.add_sub_cancel_left] at hd
      obtain ⟨As, r, h1, h2, h3, h4⟩ := s_a_of h
      rw [List.append_nil] at h4
      subst h2; subst h1
      obtain ⟨d', hd', hM⟩ := hC _ _ _ _ h4
      refine PW.callS hM hd' (by omega) (by omega) hl h3 hd fun v n' sh' P' I' hq => ?_
      obtain ⟨rfl, rfl, rfl, hq⟩ := hq
      exact hK _ _ _ _ hq
    · obtain ⟨hd, -, rfl, hl⟩ := ok
      rw [Nat.add_sub_cancel_left] at hd
      obtain ⟨As, r, h1, h2, h3⟩ := s_a_of h
      rw [List.append_nil] at h3
      obtain ⟨o, r', rfl, h4, h5, h6⟩ := s_r_of h3
      subst h2; subst h1
      obtain ⟨d', hd', hM⟩ := hC _ _ _ _ h6
      refine PW.callV hM hd' (by omega) (by omega) hl h4 h5 hd fun v n' sh' P' I' hq => ?_
      obtain ⟨rfl, rfl, rfl, hq⟩ := hq
      exact hK _ _ _ _ hq
  intro p l e R s m args below meth c0 H locs cells slots D dA ls Qf CC hW hS hls hc hs hr
  have hx := CC.1
  have hb := CC.2.1
  have hown := CC.2.2.2.2.1
  have hts := CC.2.2.2.2.2.1
  have hin : ∀ {a : Nat}, (sh a).1 ≤ 12 → g.2.2.2.2.2 ≤ a := fun q => (hW.2 _ q).1.1
  have go : ∀ {pc' : Nat} {L' : List (Option Value)} {st' : List Value} {I' : pw_I}, K pc' L' st' I' → ∀ {ls' : Array Slot} {H' : Heap} {locs' : List Loc}, pl_has ls' g.1.2.2.1 L' → pw_Wd D dA g.2.2.2.2.2 n sh P I' H' → va_S (fun q => g.2.2.2.2.2 ≤ q) s.heap H' locs' → W p l e R s m args below meth c0 H' locs' cells slots Qf (F0 m pc' ls' st') :=
    fun hk _ _ _ hl' hW' hS' => hK _ _ _ _ hk p l e R s m args below meth c0 _ _ cells slots D dA _ Qf CC hW' hS' hl' hc hs hr
  have hlen : L.length = g.1.2.2.1 := hls.2.1
  cases i <;> first | exact h.elim | exact absurd ⟨_, Or.inl rfl⟩ hinv | exact absurd ⟨_, Or.inr rfl⟩ hinv | skip
  case iconst x => obtain ⟨hd, -, rfl, hv⟩ := ok; rw [Nat.add_sub_cancel_left] at hd; exact lv_iconst hx hb hd hv (go h hls hW hS)
  case bipush x => obtain ⟨hd, -, rfl, hv⟩ := ok; rw [Nat.add_sub_cancel_left] at hd; exact lv_bipush hx hb hd hv (go h hls hW hS)
  case sipush x => obtain ⟨hd, -, rfl, hv⟩ := ok; rw [Nat.add_sub_cancel_left] at hd; exact lv_sipush hx hb hd hv (go h hls hW hS)
  case ldc x => obtain ⟨hd, -, rfl, hv⟩ := ok; rw [Nat.add_sub_cancel_left] at hd; exact lv_ldc hx hb hown (hts _ hv) hd (go h hls hW hS)
  case ldc_w x => obtain ⟨hd, -, rfl, hv⟩ := ok; rw [Nat.add_sub_cancel_left] at hd; exact lv_ldcw hx hb hown (hts _ hv) hd (go h hls hW hS)
  case iload_n j =>
    obtain ⟨hd, -, rfl⟩ := ok; rw [Nat.add_sub_cancel_left] at hd
    obtain ⟨w, h1, h⟩ := s_l_of h
    obtain ⟨x, r, e1, h⟩ := s_i_of h
    cases e1
    exact lv_iload_n hx hb hd rfl (hls.2.2.2 _ _ h1).1 (go h hls hW hS)
  case iload j =>
    obtain ⟨hd, -, rfl⟩ := ok; rw [Nat.add_sub_cancel_left] at hd
    obtain ⟨w, h1, h⟩ := s_l_of h
    obtain ⟨x, r, e1, h⟩ := s_i_of h
    cases e1
    exact lv_iload hx hb hd (hls.2.2.2 _ _ h1).1 (go h hls hW hS)
  case aload_n j =>
    obtain ⟨hd, -, rfl⟩ := ok; rw [Nat.add_sub_cancel_left] at hd
    obtain ⟨w, h1, h⟩ := s_l_of h
    obtain ⟨x, r, e1, h⟩ := s_r_of h
    cases e1
    exact lv_aload_n hx hb hd rfl (hls.2.2.2 _ _ h1).1 (go h hls hW hS)
  case aload j =>
    obtain ⟨hd, -, rfl⟩ := ok; rw [Nat.add_sub_cancel_left] at hd
    obtain ⟨w, h1, h⟩ := s_l_of h
    obtain ⟨x, r, e1, h⟩ := s_r_of h
    cases e1
    exact lv_aload hx hb hd (hls.2.2.2 _ _ h1).1 (go h hls hW hS)
  case istore_n j =>
    obtain ⟨hd, -, rfl⟩ := ok; rw [Nat.add_sub_cancel_left] at hd
    obtain ⟨x, r, rfl, h1, h⟩ := s_i_of h
    exact lv_istore_n hx hb hd rfl hls.lv (by omega) rfl fun ls' hl' => go h (hls.st rfl hl') hW hS
  case istore j =>
    obtain ⟨hd, -, rfl⟩ := ok; rw [Nat.add_sub_cancel_left] at hd
    obtain ⟨x, r, rfl, h1, h⟩ := s_i_of h
    exact lv_istore hx hb hd hls.lv (by omega) rfl fun ls' hl' => go h (hls.st rfl hl') hW hS
  case astore_n j =>
    obtain ⟨hd, -, rfl⟩ := ok; rw [Nat.add_sub_cancel_left] at hd
    obtain ⟨x, r, rfl, h1, h⟩ := s_r_of h
    exact lv_astore_n hx hb hd rfl hls.lv (by omega) rfl fun ls' hl' => go h (hls.st rfl hl') hW hS
  case astore j =>
    obtain ⟨hd, -, rfl⟩ := ok; rw [Nat.add_sub_cancel_left] at hd
    obtain ⟨x, r, rfl, h1, h⟩ := s_r_of h
    exact lv_astore hx hb hd hls.lv (by omega) rfl fun ls' hl' => go h (hls.st rfl hl') hW hS
  case iinc j z =>
    obtain ⟨hd, -, rfl, hv⟩ := ok; rw [Nat.add_sub_cancel_left] at hd
    obtain ⟨w, h1, h⟩ := s_l_of h
    obtain ⟨x, r, e1, h⟩ := s_i_of h
    cases e1
    have hj : j < L.length := (List.getElem?_eq_some_iff.mp h1).1
    obtain ⟨k, hk⟩ := List.getElem?_of_mem (pl_mem.mpr h1)
    exact lv_iinc hx hb hd hls.lv hk (by rw [hv]) (by omega) rfl fun ls' hl' => go h (hls.st rfl hl') hW hS
  case iadd => obtain ⟨hd, -, rfl⟩ := ok; rw [Nat.add_sub_cancel_left] at hd; obtain ⟨y, r, rfl, h⟩ := s_i_of h; obtain ⟨x, r, rfl, h⟩ := s_i_of h; exact lv_iadd hx hb hd (go h hls hW hS)
  case isub => obtain ⟨hd, -, rfl⟩ := ok; rw [Nat.add_sub_cancel_left] at hd; obtain ⟨y, r, rfl, h⟩ := s_i_of h; obtain ⟨x, r, rfl, h⟩ := s_i_of h; exact lv_isub hx hb hd (go h hls hW hS)
  case imul => obtain ⟨hd, -, rfl⟩ := ok; rw [Nat.add_sub_cancel_left] at hd; obtain ⟨y, r, rfl, h⟩ := s_i_of h; obtain ⟨x, r, rfl, h⟩ := s_i_of h; exact lv_imul hx hb hd (go h hls hW hS)
  case iand => obtain ⟨hd, -, rfl⟩ := ok; rw [Nat.add_sub_cancel_left] at hd; obtain ⟨y, r, rfl, h⟩ := s_i_of h; obtain ⟨x, r, rfl, h⟩ := s_i_of h; exact lv_iand hx hb hd (go h hls hW hS)
  case ior => obtain ⟨hd, -, rfl⟩ := ok; rw [Nat.add_sub_cancel_left] at hd; obtain ⟨y, r, rfl, h⟩ := s_i_of h; obtain ⟨x, r, rfl, h⟩ := s_i_of h; exact lv_ior hx hb hd (go h hls hW hS)
  case ixor => obtain ⟨hd, -, rfl⟩ := ok; rw [Nat.add_sub_cancel_left] at hd; obtain ⟨y, r, rfl, h⟩ := s_i_of h; obtain ⟨x, r, rfl, h⟩ := s_i_of h; exact lv_ixor hx hb hd (go h hls hW hS)
  case idiv => obtain ⟨hd, -, rfl⟩ := ok; rw [Nat.add_sub_cancel_left] at hd; obtain ⟨y, r, rfl, h⟩ := s_i_of h; obtain ⟨x, r, rfl, h0, h⟩ := s_i_of h; exact lv_idiv hx hb hd h0 (go h hls hW hS)
  case irem => obtain ⟨hd, -, rfl⟩ := ok; rw [Nat.add_sub_cancel_left] at hd; obtain ⟨y, r, rfl, h⟩ := s_i_of h; obtain ⟨x, r, rfl, h0, h⟩ := s_i_of h; exact lv_irem hx hb hd h0 (go h hls hW hS)
  case ishl => obtain ⟨hd, -, rfl⟩ := ok; rw [Nat.add_sub_cancel_left] at hd; obtain ⟨y, r, rfl, h⟩ := s_i_of h; obtain ⟨x, r, rfl, h⟩ := s_i_of h; exact lv_ishl hx hb hd (go h hls hW hS)
  case ishr => obtain ⟨hd, -, rfl⟩ := ok; rw [Nat.add_sub_cancel_left] at hd; obtain ⟨y, r, rfl, h⟩ := s_i_of h; obtain ⟨x, r, rfl, h⟩ := s_i_of h; exact lv_ishr hx hb hd (go h hls hW hS)
  case iushr => obtain ⟨hd, -, rfl⟩ := ok; rw [Nat.add_sub_cancel_left] at hd; obtain ⟨y, r, rfl, h⟩ := s_i_of h; obtain ⟨x, r, rfl, h⟩ := s_i_of h; exact lv_iushr hx hb hd rfl (go h hls hW hS)
  case i2c => obtain ⟨hd, -, rfl⟩ := ok; rw [Nat.add_sub_cancel_left] at hd; obtain ⟨x, r, rfl, h⟩ := s_i_of h; exact lv_i2c hx hb hd rfl (go h hls hW hS)
  case dup => obtain ⟨hd, -, rfl⟩ := ok; rw [Nat.add_sub_cancel_left] at hd; have h : s_v st fun x r => K (pc + 1) L (x :: x :: r) I := h; obtain ⟨x, r, rfl, h1, h⟩ := s_v_of h; exact lv_dup hx hb hd h1 (go h hls hW hS)
  case dup2 => obtain ⟨hd, -, rfl⟩ := ok; rw [Nat.add_sub_cancel_left] at hd; have h : s_v st fun x r => s_v r fun y r => K (pc + 1) L (x :: y :: x :: y :: r) I := h; obtain ⟨x, r, rfl, h1, h⟩ := s_v_of h; obtain ⟨y, r, rfl, h2, h⟩ := s_v_of h; exact lv_dup2_11 hx hb hd h1 h2 (go h hls hW hS)
  case pop => obtain ⟨hd, -, rfl⟩ := ok; rw [Nat.add_sub_cancel_left] at hd; have h : s_v st fun _ r => K (pc + 1) L r I := h; obtain ⟨x, r, rfl, h1, h⟩ := s_v_of h; exact lv_pop hx hb hd h1 (go h hls hW hS)
  case goto off => obtain ⟨hd, -, rfl, ht⟩ := ok; rw [Nat.add_sub_cancel_left] at hd; exact lv_goto hx hb hd ht (go h hls hW hS)
  case ifCond cd off =>
    obtain ⟨hd, -, rfl, ht⟩ := ok; rw [Nat.add_sub_cancel_left] at hd
    obtain ⟨x, r, rfl, h⟩ := s_i_of h
    cases cd
    · exact lv_if_eq hx hb hd ht (fun q => go (h.1 q) hls hW hS) (fun q => go (h.2 q) hls hW hS)
    · exact lv_if_ne hx hb hd ht (fun q => go (h.1 q) hls hW hS) (fun q => go (h.2 q) hls hW hS)
    · exact lv_if_lt hx hb hd ht (fun q => go (h.1 q) hls hW hS) (fun q => go (h.2 q) hls hW hS)
    · exact lv_if_ge hx hb hd ht (fun q => go (h.1 q) hls hW hS) (fun q => go (h.2 q) hls hW hS)
    · exact lv_if_gt hx hb hd ht (fun q => go (h.1 q) hls hW hS) (fun q => go (h.2 q) hls hW hS)
    · exact lv_if_le hx hb hd ht (fun q => go (h.1 q) hls hW hS) (fun q => go (h.2 q) hls hW hS)
  case if_icmp cd off =>
    obtain ⟨hd, -, rfl, ht⟩ := ok; rw [Nat.add_sub_cancel_left] at hd
    obtain ⟨y, r, rfl, h⟩ := s_i_of h
    obtain ⟨x, r, rfl, h⟩ := s_i_of h
    cases cd
    · exact lv_icmp_eq hx hb hd ht (fun q => go (h.1 q) hls hW hS) (fun q => go (h.2 q) hls hW hS)
    · exact lv_icmp_ne hx hb hd ht (fun q => go (h.1 q) hls hW hS) (fun q => go (h.2 q) hls hW hS)
    · exact lv_icmp_lt hx hb hd ht (fun q => go (h.1 q) hls hW hS) (fun q => go (h.2 q) hls hW hS)
    · exact lv_icmp_ge hx hb hd ht (fun q => go (h.1 q) hls hW hS) (fun q => go (h.2 q) hls hW hS)
    · exact lv_icmp_gt hx hb hd ht (fun q => go (h.1 q) hls hW hS) (fun q => go (h.2 q) hls hW hS)
    · exact lv_icmp_le hx hb hd ht (fun q => go (h.1 q) hls hW hS) (fun q => go (h.2 q) hls hW hS)
  case tableswitch d lo hi offs =>
    obtain ⟨hd, -, ht, h1, h2, h3, h4, h5⟩ := ok
    obtain ⟨x, r, rfl, h⟩ := s_i_of h
    subst h4
    rcases ps_table ht h1 h2 h3 h5 h with ⟨q1, q2⟩ | ⟨q1, q2, off, t, q3, q4, q5⟩
    · exact lv_tableOut hx hb hd q1 ht (go q2 hls hW hS)
    · exact lv_tableIn hx hb hd q1 q2 q3 q4 (go q5 hls hW hS)
  case lookupswitch d ps =>
    obtain ⟨hd, -, ht, h1, h2, h3⟩ := ok
    obtain ⟨x, r, rfl, h⟩ := s_i_of h
    subst h2
    obtain ⟨t, q1, q2⟩ := ps_lookup h3 ht h
    exact lv_lookup hx hb hd h1 rfl q1 (go q2 hls hW hS)
  case getfield x =>
    obtain ⟨hd, -, rfl, h1, h2, h3, h4, h5⟩ := ok; rw [Nat.add_sub_cancel_left] at hd
    obtain ⟨o, r, rfl, h6, h⟩ := s_r_of h
    refine pw_getf CC hW h1 h2 h3 h6 h4 hd (go ?_ hls hW hS)
    unfold pw_val
    rw [h5]
    cases sw <;> exact h
  case putfield x =>
    obtain ⟨hd, -, rfl, h1, h2, h3, h4, h5, h6, h7⟩ := ok; rw [Nat.add_sub_cancel_left] at hd
    obtain ⟨z, r, rfl, h⟩ := s_i_of h
    obtain ⟨o, r, rfl, h8, h9, h⟩ := s_r_of h
    have hnf : narrow (pw_ty a b) (.int z) = .int z ∧ fits (pw_ty a b) (.int z) = true := by
      cases sw with
      | nil => rw [h7]; exact ⟨rfl, rfl⟩
      | cons q r => rw [h7]; rcases h9 with rfl | rfl <;> exact ⟨rfl, rfl⟩
    refine pw_putf CC hW hS (P' := P) (I' := pw_up I o b z) (hin (by omega)) h1 h2 h3 h8 h4 (Or.inl h6) hnf.1 hnf.2 (fun _ _ _ => rfl) (fun q hq k => pw_up_a hq) (fun j hj => ?_) hd (fun H1 locs1 hW1 hS1 => go h hls hW1 hS1)
    unfold pw_val
    by_cases e : j = b
    · subst e
      rw [h5, if_pos rfl]
      simp [pw_up]
    · rw [if_neg e]
      rw [pw_up_k e]
  case iaload => obtain ⟨hd, -, rfl⟩ := ok; rw [Nat.add_sub_cancel_left] at hd; obtain ⟨y, r, rfl, h⟩ := s_i_of h; obtain ⟨o, r, rfl, h1, h2, h⟩ := s_r_of h; exact pw_iald CC hW h1 h2 hd (go h hls hW hS)
  case caload => obtain ⟨hd, -, rfl⟩ := ok; rw [Nat.add_sub_cancel_left] at hd; obtain ⟨y, r, rfl, h⟩ := s_i_of h; obtain ⟨o, r, rfl, h1, h2, h⟩ := s_r_of h; exact pw_cald CC hW h1 h2 hd (go h hls hW hS)
  case aaload => obtain ⟨hd, -, rfl⟩ := ok; rw [Nat.add_sub_cancel_left] at hd; obtain ⟨y, r, rfl, h⟩ := s_i_of h; obtain ⟨o, r, rfl, h1, h2, h⟩ := s_r_of h; exact pw_aald CC hW h1 h2 hd (go h hls hW hS)
  case iastore => obtain ⟨hd, -, rfl⟩ := ok; rw [Nat.add_sub_cancel_left] at hd; obtain ⟨x, r, rfl, h⟩ := s_i_of h; obtain ⟨y, r, rfl, h⟩ := s_i_of h; obtain ⟨o, r, rfl, h1, h2, h⟩ := s_r_of h; exact pw_iast CC hW hS (hin (by omega)) h1 h2 hd (fun H1 locs1 hW1 hS1 => go h hls hW1 hS1)
  case castore =>
    obtain ⟨hd, -, rfl⟩ := ok; rw [Nat.add_sub_cancel_left] at hd; obtain ⟨x, r, rfl, h⟩ := s_i_of h; obtain ⟨y, r, rfl, h⟩ := s_i_of h; obtain ⟨o, r, rfl, h1, h2, h3, h⟩ := s_r_of h
    obtain ⟨ty, e1, e2⟩ := pw_nok_narrow h3
    cases e1
    exact pw_cast CC hW hS (hin (by omega)) h1 h2 e2 hd (fun H1 locs1 hW1 hS1 => go h hls hW1 hS1)
  case arraylength => obtain ⟨hd, -, rfl⟩ := ok; rw [Nat.add_sub_cancel_left] at hd; obtain ⟨o, r, rfl, h1, h⟩ := s_r_of h; exact pw_alen CC hW h1 hd (go h hls hW hS)
  case ireturn =>
    obtain ⟨hd, -, rfl⟩ := ok; rw [Nat.add_sub_cancel_left] at hd; obtain ⟨x, r, rfl, rfl, h1, h⟩ := s_i_of h
    exact hr (some (.int x)) n sh P I pc ls H locs cells slots h hW hS (by omega) (by omega) ⟨hd, x, rfl, h1⟩
  case return_ =>
    obtain ⟨hd, -, rfl⟩ := ok; rw [Nat.add_sub_cancel_left] at hd; obtain ⟨rfl, h1, h⟩ := h
    exact hr none n sh P I pc ls H locs cells slots h hW hS (by omega) (by omega) ⟨hd, h1⟩
def vc (g : pw_g) (n : Nat) (sh : pw_Sh) (P : pw_P) (uc us : Nat) (tb : Nat → pm_E) (C : pw_C) (stop : Nat → Bool) (Q : pw_Q) : Nat → pw_Kt
  | 0 => fun pc L st I => PW g n sh P I uc us pc L st Q
  | k + 1 => fun pc L st I => match tb pc with
    | (i, nx, a, b, c, v, sw) => sx g.1.2.2.2 n sh P C Q i nx a b c v sw L st I (fun pc' L' st' I' => bif stop pc' then PW g n sh P I' uc us pc' L' st' Q else vc g n sh P uc us tb C stop Q k pc' L' st' I')
theorem pw_vcs {Ms : Nat → pm_I} {C : pw_C} {tb : Nat → pm_E} (hu : uc ≤ g.2.2.1 ∧ us ≤ g.2.2.2.1) (hC : ∀ a Ag I K, C a Ag I K → pw_cal g n sh P Ms a Ag I K) (ok : ∀ pc, (tb pc).1 = .nop ∨ pm_ok g.1 Ms pc (tb pc)) (stop : Nat → Bool) :
    ∀ (k : Nat) {pc : Nat} {L : List (Option Value)} {st : List Value} {I : pw_I}, vc g n sh P uc us tb C stop Q k pc L st I → PW g n sh P I uc us pc L st Q := by
  intro k
  induction k with
  | zero => exact fun h => h
  | succ k ih =>
    intro pc L st I h
    have hok := ok pc
    simp only [vc] at h
    generalize hq : tb pc = q at h hok
    obtain ⟨i, nx, a, b, c, v, sw⟩ := q
    rcases hok with hok | hok
    · dsimp only at hok
      subst hok
      exact h.elim
    · refine pw_sxs hok hu hC (fun pc' L' st' I' hk => ?_) h
      cases hst : stop pc' with
      | true => rw [hst] at hk; exact hk
      | false => rw [hst] at hk; exact ih hk
end PWX
end
section
/-! the code tables of all methods, by program out of the printed decode rows and words; each is checked against the bytes in the kernel -/
def mX0_init : pm_I := (yX0_init, cX0_init, 2, none)
def mX0_copyFrom : pm_I := (yX0_copyFrom, cX0_copyFrom, 3, none)
def mX0_hasNode : pm_I := (yX0_hasNode, cX0_hasNode, 2, (some .boolean))
def mX0_hasLine : pm_I := (yX0_hasLine, cX0_hasLine, 2, (some .boolean))
def mX0_addNode : pm_I := (yX0_addNode, cX0_addNode, 6, (some .int))
def mX0_addLine : pm_I := (yX0_addLine, cX0_addLine, 7, (some .int))
def mX0_setLineMask : pm_I := (yX0_setLineMask, cX0_setLineMask, 3, (some .int))
def mX0_setNodeMask : pm_I := (yX0_setNodeMask, cX0_setNodeMask, 3, (some .int))
def mX0_setThreshold : pm_I := (yX0_setThreshold, cX0_setThreshold, 3, (some .int))
def mX0_setLate : pm_I := (yX0_setLate, cX0_setLate, 3, (some .int))
def mX0_giveEdge : pm_I := (yX0_giveEdge, cX0_giveEdge, 3, (some .int))
def mX0_setLevel : pm_I := (yX0_setLevel, cX0_setLevel, 4, (some .int))
def mX0_takeNext : pm_I := (yX0_takeNext, cX0_takeNext, 3, (some .int))
def mX0_endService : pm_I := (yX0_endService, cX0_endService, 2, (some .int))
def mX0_passTicks : pm_I := (yX0_passTicks, cX0_passTicks, 2, (some .int))
def mX0_queueAcknowledge : pm_I := (yX0_queueAcknowledge, cX0_queueAcknowledge, 6, none)
def mX0_acknowledgeDue : pm_I := (yX0_acknowledgeDue, cX0_acknowledgeDue, 4, (some .int))
def mX0_turnInputs : pm_I := (yX0_turnInputs, cX0_turnInputs, 5, none)
def mX0_nextLine : pm_I := (yX0_nextLine, cX0_nextLine, 6, (some .int))
def mX0_passOver : pm_I := (yX0_passOver, cX0_passOver, 2, none)
def mX0_lowestRank : pm_I := (yX0_lowestRank, cX0_lowestRank, 2, (some .int))
def mX0_isReady : pm_I := (yX0_isReady, cX0_isReady, 4, (some .boolean))
def mX0_isMasked : pm_I := (yX0_isMasked, cX0_isMasked, 3, (some .boolean))
def mX0_litSet : pm_I := (yX0_litSet, cX0_litSet, 3, (some .int))
def mX0_readySet : pm_I := (yX0_readySet, cX0_readySet, 4, (some .int))
def mX0_stageSet : pm_I := (yX0_stageSet, cX0_stageSet, 4, (some .int))
def mX0_ownMaskSet : pm_I := (yX0_ownMaskSet, cX0_ownMaskSet, 3, (some .int))
def mX0_anyMaskSet : pm_I := (yX0_anyMaskSet, cX0_anyMaskSet, 3, (some .int))
def mX0_linesBelow : pm_I := (yX0_linesBelow, cX0_linesBelow, 4, (some .int))
def mX0_edgeLineSet : pm_I := (yX0_edgeLineSet, cX0_edgeLineSet, 3, (some .int))
def mX0_tellLine : pm_I := (yX0_tellLine, cX0_tellLine, 4, (some .int))
def mX0_tellNode : pm_I := (yX0_tellNode, cX0_tellNode, 4, (some .int))
def mX0_tellInput : pm_I := (yX0_tellInput, cX0_tellInput, 4, (some .int))
def mX0_tellService : pm_I := (yX0_tellService, cX0_tellService, 3, (some .int))
def mX0_tellWaiting : pm_I := (yX0_tellWaiting, cX0_tellWaiting, 3, (some .int))
def mX0_tellNumber : pm_I := (yX0_tellNumber, cX0_tellNumber, 2, (some .int))
def mX0_allEdges : pm_I := (yX0_allEdges, cX0_allEdges, 3, (some .int))
def mX0_allLost : pm_I := (yX0_allLost, cX0_allLost, 3, (some .int))
def mX0_allTaken : pm_I := (yX0_allTaken, cX0_allTaken, 4, (some .int))
def mX1_init : pm_I := (yX1_init, cX1_init, 1, none)
def mX1_append : pm_I := (yX1_append, cX1_append, 2, (some .int))
def mX1_makeEmpty : pm_I := (yX1_makeEmpty, cX1_makeEmpty, 2, (some .int))
def mX1_runOn : pm_I := (yX1_runOn, cX1_runOn, 4, (some .int))
def mX1_answerOf : pm_I := (yX1_answerOf, cX1_answerOf, 2, (some .int))
def mX1_reasonOf : pm_I := (yX1_reasonOf, cX1_reasonOf, 1, (some .int))
def mX1_readEvent : pm_I := (yX1_readEvent, cX1_readEvent, 1, (some .boolean))
def mX1_readNumber : pm_I := (yX1_readNumber, cX1_readNumber, 3, (some .int))
def mX1_readSign : pm_I := (yX1_readSign, cX1_readSign, 3, (some .boolean))
def mX1_digitAt : pm_I := (yX1_digitAt, cX1_digitAt, 3, (some .int))
def mX1_signAt : pm_I := (yX1_signAt, cX1_signAt, 2, (some .char))
def mX2_init : pm_I := (yX2_init, cX2_init, 2, none)
def mX2_prepare : pm_I := (yX2_prepare, cX2_prepare, 2, none)
def mX2_close : pm_I := (yX2_close, cX2_close, 2, (some .int))
def mX2_restore : pm_I := (yX2_restore, cX2_restore, 2, (some .int))
def mX2_dropOldest : pm_I := (yX2_dropOldest, cX2_dropOldest, 3, none)
def mX3_init : pm_I := (yX3_init, cX3_init, 1, none)
def mX3_copyFrom : pm_I := (yX3_copyFrom, cX3_copyFrom, 2, none)
def mX4_init : pm_I := (yX4_init, cX4_init, 1, none)
def mX4_copyFrom : pm_I := (yX4_copyFrom, cX4_copyFrom, 2, none)
def mX5_init : pm_I := (yX5_init, cX5_init, 1, none)
def mX5_get : pm_I := (yX5_get, cX5_get, 2, (some .int))
def mX5_insert : pm_I := (yX5_insert, cX5_insert, 4, none)
def mX5_remove : pm_I := (yX5_remove, cX5_remove, 3, none)
def mX5_moveBehind : pm_I := (yX5_moveBehind, cX5_moveBehind, 3, none)
def mX5_copyFrom : pm_I := (yX5_copyFrom, cX5_copyFrom, 2, none)
def mX6_init : pm_I := (yX6_init, cX6_init, 1, none)
def mX6_node : pm_I := (yX6_node, cX6_node, 3, (some .int))
def mX6_line : pm_I := (yX6_line, cX6_line, 4, (some .int))
def mX6_mask : pm_I := (yX6_mask, cX6_mask, 3, (some .int))
def mX6_maskNode : pm_I := (yX6_maskNode, cX6_maskNode, 3, (some .int))
def mX6_threshold : pm_I := (yX6_threshold, cX6_threshold, 2, (some .int))
def mX6_late : pm_I := (yX6_late, cX6_late, 2, (some .int))
def mX6_lineOf : pm_I := (yX6_lineOf, cX6_lineOf, 3, (some .int))
def mX6_nodeOf : pm_I := (yX6_nodeOf, cX6_nodeOf, 3, (some .int))
def mX6_inputAt : pm_I := (yX6_inputAt, cX6_inputAt, 3, (some .int))
def mX6_edge : pm_I := (yX6_edge, cX6_edge, 2, (some .int))
def mX6_level : pm_I := (yX6_level, cX6_level, 3, (some .int))
def mX6_take : pm_I := (yX6_take, cX6_take, 1, (some .int))
def mX6_done : pm_I := (yX6_done, cX6_done, 1, (some .int))
def mX6_tick : pm_I := (yX6_tick, cX6_tick, 2, (some .int))
def mX6_next : pm_I := (yX6_next, cX6_next, 2, (some .int))
def mX6_orderAt : pm_I := (yX6_orderAt, cX6_orderAt, 3, (some .int))
def mX6_serviceAt : pm_I := (yX6_serviceAt, cX6_serviceAt, 2, (some .int))
def mX6_waitingAt : pm_I := (yX6_waitingAt, cX6_waitingAt, 2, (some .int))
def mX6_lines : pm_I := (yX6_lines, cX6_lines, 2, (some .int))
def mX6_count : pm_I := (yX6_count, cX6_count, 2, (some .int))
def mX6_undo : pm_I := (yX6_undo, cX6_undo, 1, (some .int))
def mX6_type : pm_I := (yX6_type, cX6_type, 2, (some .int))
def mX6_clearText : pm_I := (yX6_clearText, cX6_clearText, 1, (some .int))
def mX6_fault : pm_I := (yX6_fault, cX6_fault, 2, (some .int))
def mX6_play : pm_I := (yX6_play, cX6_play, 2, (some .int))
def mX6_isBit : pm_I := (yX6_isBit, cX6_isBit, 1, (some .boolean))
def mX6_asBit : pm_I := (yX6_asBit, cX6_asBit, 1, (some .int))
def mX7_init : pm_I := (yX7_init, cX7_init, 1, none)
def mX7_in : pm_I := (yX7_in, cX7_in, 3, (some .boolean))
def mX7_record : pm_I := (yX7_record, cX7_record, 2, none)
def mX7_layAside : pm_I := (yX7_layAside, cX7_layAside, 2, none)
def mX7_layBack : pm_I := (yX7_layBack, cX7_layBack, 2, none)
def mX7_n : pm_I := (yX7_n, cX7_n, 1, (some .int))
def mX7_l : pm_I := (yX7_l, cX7_l, 1, (some .int))
def mX7_isNode : pm_I := (yX7_isNode, cX7_isNode, 2, (some .boolean))
def mX7_isLine : pm_I := (yX7_isLine, cX7_isLine, 2, (some .boolean))
def mX7_isBit : pm_I := (yX7_isBit, cX7_isBit, 1, (some .boolean))
def mX7_hang : pm_I := (yX7_hang, cX7_hang, 3, none)
def mX7_node : pm_I := (yX7_node, cX7_node, 4, (some .int))
def mX7_line : pm_I := (yX7_line, cX7_line, 5, (some .int))
def mX7_isOnWay : pm_I := (yX7_isOnWay, cX7_isOnWay, 4, (some .boolean))
def mX7_linesBy : pm_I := (yX7_linesBy, cX7_linesBy, 4, (some .int))
def mX7_bits : pm_I := (yX7_bits, cX7_bits, 3, (some .int))
def mX7_mask : pm_I := (yX7_mask, cX7_mask, 3, (some .int))
def mX7_maskNode : pm_I := (yX7_maskNode, cX7_maskNode, 3, (some .int))
def mX7_threshold : pm_I := (yX7_threshold, cX7_threshold, 3, (some .int))
def mX7_late : pm_I := (yX7_late, cX7_late, 3, (some .int))
def mX7_isHidden : pm_I := (yX7_isHidden, cX7_isHidden, 4, (some .boolean))
def mX7_isReady : pm_I := (yX7_isReady, cX7_isReady, 4, (some .boolean))
def mX7_layOrder : pm_I := (yX7_layOrder, cX7_layOrder, 6, none)
def mX7_nextLine : pm_I := (yX7_nextLine, cX7_nextLine, 4, (some .int))
def mX7_turnBehind : pm_I := (yX7_turnBehind, cX7_turnBehind, 5, none)
def mX7_turnWay : pm_I := (yX7_turnWay, cX7_turnWay, 4, none)
def mX7_goTake : pm_I := (yX7_goTake, cX7_goTake, 4, none)
def mX7_goDone : pm_I := (yX7_goDone, cX7_goDone, 2, (some .int))
def mX7_litState : pm_I := (yX7_litState, cX7_litState, 4, (some .int))
def mX7_lineOf : pm_I := (yX7_lineOf, cX7_lineOf, 3, (some .int))
def mX7_nodeOf : pm_I := (yX7_nodeOf, cX7_nodeOf, 3, (some .int))
def mX7_inputAt : pm_I := (yX7_inputAt, cX7_inputAt, 3, (some .int))
def mX7_goEdge : pm_I := (yX7_goEdge, cX7_goEdge, 3, (some .int))
def mX7_edge : pm_I := (yX7_edge, cX7_edge, 2, (some .int))
def mX7_canLevel : pm_I := (yX7_canLevel, cX7_canLevel, 3, (some .boolean))
def mX7_level : pm_I := (yX7_level, cX7_level, 3, (some .int))
def mX7_take : pm_I := (yX7_take, cX7_take, 2, (some .int))
def mX7_done : pm_I := (yX7_done, cX7_done, 1, (some .int))
def mX7_goTicks : pm_I := (yX7_goTicks, cX7_goTicks, 5, (some .int))
def mX7_tick : pm_I := (yX7_tick, cX7_tick, 2, (some .int))
def mX7_next : pm_I := (yX7_next, cX7_next, 2, (some .int))
def mX7_orderAt : pm_I := (yX7_orderAt, cX7_orderAt, 4, (some .int))
def mX7_serviceAt : pm_I := (yX7_serviceAt, cX7_serviceAt, 2, (some .int))
def mX7_isAhead : pm_I := (yX7_isAhead, cX7_isAhead, 4, (some .boolean))
def mX7_waitingAt : pm_I := (yX7_waitingAt, cX7_waitingAt, 5, (some .int))
def mX7_isOf : pm_I := (yX7_isOf, cX7_isOf, 3, (some .boolean))
def mX7_linesOf : pm_I := (yX7_linesOf, cX7_linesOf, 4, (some .int))
def mX7_lines : pm_I := (yX7_lines, cX7_lines, 2, (some .int))
def mX7_litEdges : pm_I := (yX7_litEdges, cX7_litEdges, 3, (some .int))
def mX7_count : pm_I := (yX7_count, cX7_count, 2, (some .int))
def mX7_undo : pm_I := (yX7_undo, cX7_undo, 2, (some .int))
def mX7_type : pm_I := (yX7_type, cX7_type, 2, (some .int))
def mX7_clearText : pm_I := (yX7_clearText, cX7_clearText, 2, (some .int))
def mX7_sees : pm_I := (yX7_sees, cX7_sees, 3, (some .boolean))
def mX7_number : pm_I := (yX7_number, cX7_number, 3, (some .int))
def mX7_isForm : pm_I := (yX7_isForm, cX7_isForm, 3, (some .boolean))
def mX7_isRange : pm_I := (yX7_isRange, cX7_isRange, 2, (some .boolean))
def mX7_isPossible : pm_I := (yX7_isPossible, cX7_isPossible, 2, (some .boolean))
def mX7_goEvent : pm_I := (yX7_goEvent, cX7_goEvent, 2, none)
def mX7_isSign : pm_I := (yX7_isSign, cX7_isSign, 1, (some .boolean))
def mX7_run : pm_I := (yX7_run, cX7_run, 3, (some .int))
def mX7_fault : pm_I := (yX7_fault, cX7_fault, 3, (some .int))
def mX7_play : pm_I := (yX7_play, cX7_play, 2, (some .int))
def mJ6_bitCount_0f7a4 : pm_I := (yJ6_bitCount_0f7a4, cJ6_bitCount_0f7a4, 1, (some .int))
def mJ9_max_7cf53 : pm_I := (yJ9_max_7cf53, cJ9_max_7cf53, 2, (some .int))
def mL_law : pm_I := (yL_law, cL_law, 4, (some .boolean))
def pw_Ms : Nat → pm_I := fun a => match a with
  | 0 => mX0_init
  | 1 => mX0_copyFrom
  | 2 => mX0_hasNode
  | 3 => mX0_hasLine
  | 4 => mX0_addNode
  | 5 => mX0_addLine
  | 6 => mX0_setLineMask
  | 7 => mX0_setNodeMask
  | 8 => mX0_setThreshold
  | 9 => mX0_setLate
  | 10 => mX0_giveEdge
  | 11 => mX0_setLevel
  | 12 => mX0_takeNext
  | 13 => mX0_endService
  | 14 => mX0_passTicks
  | 15 => mX0_queueAcknowledge
  | 16 => mX0_acknowledgeDue
  | 17 => mX0_turnInputs
  | 18 => mX0_nextLine
  | 19 => mX0_passOver
  | 20 => mX0_lowestRank
  | 21 => mX0_isReady
  | 22 => mX0_isMasked
  | 23 => mX0_litSet
  | 24 => mX0_readySet
  | 25 => mX0_stageSet
  | 26 => mX0_ownMaskSet
  | 27 => mX0_anyMaskSet
  | 28 => mX0_linesBelow
  | 29 => mX0_edgeLineSet
  | 30 => mX0_tellLine
  | 31 => mX0_tellNode
  | 32 => mX0_tellInput
  | 33 => mX0_tellService
  | 34 => mX0_tellWaiting
  | 35 => mX0_tellNumber
  | 36 => mX0_allEdges
  | 37 => mX0_allLost
  | 38 => mX0_allTaken
  | 39 => mX1_init
  | 40 => mX1_append
  | 41 => mX1_makeEmpty
  | 42 => mX1_runOn
  | 43 => mX1_answerOf
  | 44 => mX1_reasonOf
  | 45 => mX1_readEvent
  | 46 => mX1_readNumber
  | 47 => mX1_readSign
  | 48 => mX1_digitAt
  | 49 => mX1_signAt
  | 50 => mX2_init
  | 51 => mX2_prepare
  | 52 => mX2_close
  | 53 => mX2_restore
  | 54 => mX2_dropOldest
  | 55 => mX3_init
  | 56 => mX3_copyFrom
  | 57 => mX4_init
  | 58 => mX4_copyFrom
  | 59 => mX5_init
  | 60 => mX5_get
  | 61 => mX5_insert
  | 62 => mX5_remove
  | 63 => mX5_moveBehind
  | 64 => mX5_copyFrom
  | 65 => mX6_init
  | 66 => mX6_node
  | 67 => mX6_line
  | 68 => mX6_mask
  | 69 => mX6_maskNode
  | 70 => mX6_threshold
  | 71 => mX6_late
  | 72 => mX6_lineOf
  | 73 => mX6_nodeOf
  | 74 => mX6_inputAt
  | 75 => mX6_edge
  | 76 => mX6_level
  | 77 => mX6_take
  | 78 => mX6_done
  | 79 => mX6_tick
  | 80 => mX6_next
  | 81 => mX6_orderAt
  | 82 => mX6_serviceAt
  | 83 => mX6_waitingAt
  | 84 => mX6_lines
  | 85 => mX6_count
  | 86 => mX6_undo
  | 87 => mX6_type
  | 88 => mX6_clearText
  | 89 => mX6_fault
  | 90 => mX6_play
  | 91 => mX6_isBit
  | 92 => mX6_asBit
  | 93 => mX7_init
  | 94 => mX7_in
  | 95 => mX7_record
  | 96 => mX7_layAside
  | 97 => mX7_layBack
  | 98 => mX7_n
  | 99 => mX7_l
  | 100 => mX7_isNode
  | 101 => mX7_isLine
  | 102 => mX7_isBit
  | 103 => mX7_hang
  | 104 => mX7_node
  | 105 => mX7_line
  | 106 => mX7_isOnWay
  | 107 => mX7_linesBy
  | 108 => mX7_bits
  | 109 => mX7_mask
  | 110 => mX7_maskNode
  | 111 => mX7_threshold
  | 112 => mX7_late
  | 113 => mX7_isHidden
  | 114 => mX7_isReady
  | 115 => mX7_layOrder
  | 116 => mX7_nextLine
  | 117 => mX7_turnBehind
  | 118 => mX7_turnWay
  | 119 => mX7_goTake
  | 120 => mX7_goDone
  | 121 => mX7_litState
  | 122 => mX7_lineOf
  | 123 => mX7_nodeOf
  | 124 => mX7_inputAt
  | 125 => mX7_goEdge
  | 126 => mX7_edge
  | 127 => mX7_canLevel
  | 128 => mX7_level
  | 129 => mX7_take
  | 130 => mX7_done
  | 131 => mX7_goTicks
  | 132 => mX7_tick
  | 133 => mX7_next
  | 134 => mX7_orderAt
  | 135 => mX7_serviceAt
  | 136 => mX7_isAhead
  | 137 => mX7_waitingAt
  | 138 => mX7_isOf
  | 139 => mX7_linesOf
  | 140 => mX7_lines
  | 141 => mX7_litEdges
  | 142 => mX7_count
  | 143 => mX7_undo
  | 144 => mX7_type
  | 145 => mX7_clearText
  | 146 => mX7_sees
  | 147 => mX7_number
  | 148 => mX7_isForm
  | 149 => mX7_isRange
  | 150 => mX7_isPossible
  | 151 => mX7_goEvent
  | 152 => mX7_isSign
  | 153 => mX7_run
  | 154 => mX7_fault
  | 155 => mX7_play
  | 156 => mJ6_bitCount_0f7a4
  | 157 => mJ9_max_7cf53
  | _ => mL_law
/-- fields: the place in the pool, class, slot, whose pool; the word's place in the tables -/
def pw_flx : List ((Nat × Nat × Nat × String) × Nat) := [((7, 7, 0, RX7), 645), ((7, 3, 0, RX3), 121), ((9, 1, 0, RX1), 232), ((9, 5, 0, RX5), 88), ((10, 4, 0, RX4), 97), ((11, 0, 0, RX0), 172), ((11, 2, 0, RX2), 218), ((12, 6, 0, RX6), 258), ((13, 7, 1, RX7), 646), ((13, 3, 1, RX3), 123), ((15, 1, 1, RX1), 233), ((15, 5, 1, RX5), 89), ((16, 6, 1, RX6), 259), ((16, 3, 2, RX3), 125), ((16, 7, 2, RX7), 647), ((18, 2, 1, RX2), 219), ((19, 1, 6, RX1), 240), ((19, 7, 3, RX7), 648), ((20, 4, 1, RX4), 100), ((20, 0, 1, RX0), 173), ((20, 3, 3, RX3), 127), ((22, 6, 2, RX6), 260), ((22, 7, 4, RX7), 649), ((22, 1, 3, RX1), 237), ((23, 3, 4, RX3), 129), ((24, 4, 2, RX4), 101), ((25, 7, 5, RX7), 650), ((25, 1, 2, RX1), 235), ((26, 3, 5, RX3), 131), ((28, 7, 6, RX7), 651), ((28, 4, 3, RX4), 104), ((28, 0, 9, RX0), 181), ((29, 6, 3, RX6), 261), ((29, 3, 6, RX3), 133), ((31, 7, 8, RX7), 653), ((32, 3, 7, RX3), 135), ((32, 0, 10, RX0), 182), ((35, 3, 8, RX3), 137), ((35, 0, 11, RX0), 183), ((38, 3, 9, RX3), 139), ((39, 4, 1, RX0), 99), ((41, 3, 10, RX3), 141), ((43, 4, 3, RX0), 103), ((44, 3, 11, RX3), 143), ((44, 1, 4, RX1), 238), ((46, 0, 2, RX0), 174), ((49, 0, 7, RX0), 179), ((52, 1, 5, RX1), 239), ((59, 0, 3, RX0), 175), ((62, 0, 4, RX0), 176), ((65, 0, 5, RX0), 177), ((68, 0, 6, RX0), 178), ((71, 0, 8, RX0), 180), ((84, 4, 2, RX0), 102), ((88, 4, 0, RX0), 98), ((91, 5, 1, RX0), 90), ((98, 3, 0, RX0), 122), ((101, 3, 1, RX0), 124), ((104, 3, 2, RX0), 126), ((110, 3, 4, RX0), 130), ((117, 2, 1, RX6), 220), ((121, 1, 1, RX6), 234), ((126, 3, 6, RX0), 134), ((129, 3, 3, RX0), 128), ((131, 7, 7, RX7), 652), ((132, 3, 7, RX0), 136), ((134, 7, 9, RX7), 654), ((135, 3, 10, RX0), 142), ((137, 7, 10, RX7), 655), ((140, 7, 11, RX7), 656), ((144, 1, 6, RX6), 241), ((144, 3, 5, RX0), 132), ((147, 1, 2, RX6), 236), ((147, 3, 8, RX0), 138), ((149, 7, 12, RX7), 657), ((150, 3, 9, RX0), 140), ((169, 3, 11, RX0), 144)]
def pw_msx : List ((Nat × Nat) × Nat × Nat × Nat) := [((44, 1), 634, 56, 633), ((91, 1), 309, 50, 308), ((92, 1), 348, 50, 347), ((94, 3), 695, 57, 694), ((98, 1), 705, 57, 704), ((99, 1), 716, 57, 715), ((102, 1), 698, 57, 697), ((108, 1), 743, 57, 742), ((152, 1), 899, 57, 898), ((156, 1), 351, 59, 350), ((157, 2), 401, 60, 400)]
def pw_mvx : List ((Nat × Nat × Nat) × Nat × Nat × Nat × Nat) := [((1, 1, 0), 282, 51, 280, 281), ((2, 1, 0), 306, 51, 304, 305), ((3, 1, 0), 341, 51, 339, 340), ((4, 2, 0), 302, 51, 300, 301), ((5, 3, 0), 329, 51, 327, 328), ((6, 2, 0), 337, 51, 335, 336), ((7, 2, 0), 362, 51, 360, 361), ((8, 1, 0), 374, 51, 372, 373), ((9, 1, 0), 382, 51, 380, 381), ((10, 1, 0), 437, 51, 435, 436), ((11, 2, 0), 445, 51, 443, 444), ((12, 0, 0), 453, 51, 451, 452), ((13, 0, 0), 478, 51, 476, 477), ((14, 1, 0), 495, 51, 493, 494), ((15, 1, 0), 483, 51, 482, 6), ((16, 0, 0), 487, 51, 486, 7), ((17, 1, 0), 461, 51, 460, 5), ((18, 0, 0), 457, 51, 455, 456), ((19, 1, 0), 510, 51, 508, 509), ((20, 0, 0), 394, 51, 393, 2), ((21, 2, 0), 405, 51, 404, 3), ((22, 1, 0), 409, 51, 408, 4), ((23, 0, 0), 421, 51, 419, 420), ((24, 0, 0), 535, 51, 533, 534), ((25, 1, 0), 539, 51, 537, 538), ((26, 0, 0), 345, 51, 343, 344), ((27, 0, 0), 544, 51, 542, 543), ((28, 1, 0), 366, 51, 365, 1), ((29, 0, 0), 564, 51, 563, 10), ((30, 2, 0), 390, 51, 388, 389), ((31, 2, 0), 417, 51, 415, 416), ((32, 2, 0), 429, 51, 427, 428), ((33, 1, 0), 518, 51, 516, 517), ((34, 1, 0), 526, 51, 524, 525), ((35, 1, 0), 552, 51, 550, 551), ((36, 0, 0), 556, 51, 555, 8), ((37, 0, 0), 560, 51, 559, 9), ((38, 1, 0), 568, 51, 567, 11), ((40, 1, 1), 584, 56, 582, 583), ((41, 0, 1), 592, 56, 590, 591), ((42, 1, 1), 601, 56, 599, 600), ((43, 1, 1), 625, 56, 624, 17), ((45, 0, 1), 605, 56, 604, 12), ((46, 0, 1), 613, 56, 612, 14), ((47, 1, 1), 621, 56, 620, 16), ((48, 1, 1), 617, 56, 616, 15), ((49, 1, 1), 609, 56, 608, 13), ((51, 1, 2), 278, 55, 276, 277), ((52, 1, 2), 317, 55, 315, 316), ((53, 1, 2), 576, 55, 574, 575), ((54, 0, 2), 321, 55, 320, 0), ((56, 1, 3), 297, 54, 295, 296), ((58, 1, 4), 286, 52, 284, 285), ((60, 1, 5), 398, 53, 396, 397), ((61, 2, 5), 313, 53, 311, 312), ((62, 1, 5), 469, 53, 467, 468), ((63, 1, 5), 465, 53, 463, 464), ((64, 1, 5), 290, 53, 288, 289), ((66, 2, 6), 274, 50, 272, 273), ((67, 3, 6), 325, 50, 323, 324), ((68, 2, 6), 333, 50, 331, 332), ((69, 2, 6), 358, 50, 356, 357), ((70, 1, 6), 370, 50, 368, 369), ((71, 1, 6), 378, 50, 376, 377), ((72, 2, 6), 386, 50, 384, 385), ((73, 2, 6), 413, 50, 411, 412), ((74, 2, 6), 425, 50, 423, 424), ((75, 1, 6), 433, 50, 431, 432), ((76, 2, 6), 441, 50, 439, 440), ((77, 0, 6), 449, 50, 447, 448), ((78, 0, 6), 474, 50, 472, 473), ((79, 1, 6), 491, 50, 489, 490), ((80, 0, 6), 500, 50, 498, 499), ((81, 1, 6), 505, 50, 503, 504), ((82, 1, 6), 514, 50, 512, 513), ((83, 1, 6), 522, 50, 520, 521), ((84, 1, 6), 530, 50, 528, 529), ((85, 1, 6), 548, 50, 546, 547), ((86, 0, 6), 572, 50, 570, 571), ((87, 1, 6), 580, 50, 578, 579), ((88, 0, 6), 588, 50, 586, 587), ((89, 1, 6), 596, 50, 594, 595), ((90, 0, 6), 638, 50, 636, 637), ((95, 0, 7), 702, 57, 701, 19), ((96, 0, 7), 848, 57, 847, 38), ((97, 0, 7), 852, 57, 851, 39), ((100, 1, 7), 692, 57, 691, 18), ((101, 1, 7), 724, 57, 723, 21), ((103, 2, 7), 709, 57, 708, 20), ((104, 2, 7), 688, 57, 686, 687), ((105, 3, 7), 713, 57, 711, 712), ((106, 2, 7), 755, 57, 754, 27), ((107, 1, 7), 751, 57, 750, 26), ((109, 2, 7), 720, 57, 718, 719), ((110, 2, 7), 747, 57, 745, 746), ((111, 1, 7), 759, 57, 757, 758), ((112, 1, 7), 763, 57, 761, 762), ((113, 1, 7), 740, 57, 739, 25), ((114, 1, 7), 736, 57, 735, 24), ((115, 0, 7), 807, 57, 806, 32), ((116, 0, 7), 803, 57, 802, 31), ((117, 2, 7), 819, 57, 818, 35), ((118, 1, 7), 815, 57, 814, 34), ((119, 1, 7), 811, 57, 810, 33), ((120, 0, 7), 827, 57, 826, 36), ((121, 2, 7), 771, 57, 770, 28), ((122, 2, 7), 767, 57, 765, 766), ((123, 2, 7), 775, 57, 773, 774), ((124, 2, 7), 779, 57, 777, 778), ((125, 1, 7), 787, 57, 786, 29), ((126, 1, 7), 783, 57, 781, 782), ((127, 2, 7), 795, 57, 794, 30), ((128, 2, 7), 791, 57, 789, 790), ((129, 0, 7), 799, 57, 797, 798), ((130, 0, 7), 823, 57, 821, 822), ((131, 1, 7), 836, 57, 835, 37), ((132, 1, 7), 831, 57, 829, 830), ((133, 0, 7), 840, 57, 838, 839), ((134, 1, 7), 844, 57, 842, 843), ((135, 1, 7), 856, 57, 854, 855), ((136, 2, 7), 864, 57, 863, 40), ((137, 1, 7), 860, 57, 858, 859), ((138, 2, 7), 732, 57, 731, 23), ((139, 1, 7), 728, 57, 727, 22), ((140, 1, 7), 868, 57, 866, 867), ((141, 0, 7), 876, 57, 875, 41), ((142, 1, 7), 872, 57, 870, 871), ((143, 0, 7), 880, 57, 878, 879), ((144, 1, 7), 884, 57, 882, 883), ((145, 0, 7), 888, 57, 886, 887), ((146, 1, 7), 911, 57, 910, 45), ((147, 0, 7), 907, 57, 906, 44), ((148, 1, 7), 903, 57, 902, 43), ((149, 1, 7), 915, 57, 914, 46), ((150, 1, 7), 919, 57, 918, 47), ((151, 1, 7), 923, 57, 922, 48), ((153, 0, 7), 896, 57, 895, 42), ((154, 1, 7), 892, 57, 890, 891), ((155, 0, 7), 927, 57, 925, 926)]
def pw_slx : List ((Nat × Nat × Nat × String) × Nat) := [((35, 94, 3, RX7), 693), ((36, 44, 1, RX1), 632), ((39, 98, 1, RX7), 703), ((47, 102, 1, RX7), 696), ((57, 99, 1, RX7), 714), ((70, 108, 1, RX7), 741), ((81, 91, 1, RX0), 307), ((117, 156, 1, RX0), 349), ((137, 91, 1, RX6), 597), ((152, 152, 1, RX7), 897), ((153, 157, 2, RX0), 399), ((192, 92, 1, RX0), 346)]
def pw_vlx : List ((Nat × Nat × Nat × Nat × String) × Nat) := [((13, 66, 2, 6, RL), 271), ((16, 64, 1, 5, RX4), 287), ((17, 104, 2, 7, RL), 685), ((18, 67, 3, 6, RL), 322), ((19, 62, 1, 5, RX5), 466), ((22, 105, 3, 7, RL), 710), ((22, 1, 1, 0, RX2), 279), ((23, 61, 2, 5, RX5), 470), ((23, 68, 2, 6, RL), 330), ((26, 109, 2, 7, RL), 717), ((26, 54, 0, 2, RX2), 318), ((27, 69, 2, 6, RL), 355), ((28, 45, 0, 1, RX1), 602), ((30, 110, 2, 7, RL), 744), ((31, 70, 1, 6, RL), 367), ((32, 43, 1, 1, RX1), 622), ((33, 51, 1, 2, RX6), 275), ((35, 111, 1, 7, RL), 756), ((36, 71, 1, 6, RL), 375), ((37, 4, 2, 0, RX6), 299), ((39, 112, 1, 7, RL), 760), ((40, 72, 2, 6, RL), 383), ((40, 49, 1, 1, RX1), 606), ((41, 52, 1, 2, RX6), 314), ((43, 100, 1, 7, RX7), 689), ((43, 122, 2, 7, RL), 764), ((44, 73, 2, 6, RL), 410), ((45, 5, 3, 0, RX6), 326), ((47, 123, 2, 7, RL), 772), ((47, 10, 1, 0, RX1), 626), ((48, 74, 2, 6, RL), 422), ((49, 6, 2, 0, RX6), 334), ((50, 95, 0, 7, RX7), 699), ((51, 124, 2, 7, RL), 776), ((52, 75, 1, 6, RL), 430), ((52, 7, 2, 0, RX6), 359), ((52, 58, 1, 4, RX0), 283), ((53, 103, 2, 7, RX7), 706), ((55, 8, 1, 0, RX6), 371), ((55, 126, 1, 7, RL), 780), ((55, 11, 2, 0, RX1), 627), ((56, 56, 1, 3, RX0), 294), ((56, 76, 2, 6, RL), 438), ((58, 9, 1, 0, RX6), 379), ((59, 6, 2, 0, RX1), 628), ((59, 128, 2, 7, RL), 788), ((60, 106, 2, 7, RX7), 752), ((60, 77, 0, 6, RL), 446), ((61, 30, 2, 0, RX6), 387), ((62, 12, 0, 0, RX1), 629), ((64, 129, 0, 7, RL), 796), ((64, 31, 2, 0, RX6), 414), ((64, 101, 1, 7, RX7), 721), ((65, 78, 0, 6, RL), 471), ((66, 13, 0, 0, RX1), 630), ((67, 32, 2, 0, RX6), 426), ((67, 139, 1, 7, RX7), 725), ((68, 130, 0, 7, RL), 820), ((69, 79, 1, 6, RL), 488), ((69, 14, 1, 0, RX1), 631), ((70, 10, 1, 0, RX6), 434), ((72, 46, 0, 1, RX1), 610), ((72, 132, 1, 7, RL), 828), ((73, 80, 0, 6, RL), 497), ((73, 107, 1, 7, RX7), 748), ((73, 11, 2, 0, RX6), 442), ((74, 64, 1, 5, RX0), 298), ((75, 47, 1, 1, RX1), 618), ((76, 12, 0, 0, RX6), 450), ((76, 113, 1, 7, RX7), 737), ((76, 133, 0, 7, RL), 837), ((77, 81, 1, 6, RL), 502), ((77, 2, 1, 0, RX0), 303), ((79, 115, 0, 7, RX7), 804), ((79, 48, 1, 1, RX1), 614), ((80, 134, 1, 7, RL), 841), ((80, 13, 0, 0, RX6), 475), ((81, 82, 1, 6, RL), 511), ((82, 114, 1, 7, RX7), 733), ((83, 14, 1, 0, RX6), 492), ((84, 135, 1, 7, RL), 853), ((85, 83, 1, 6, RL), 519), ((85, 117, 2, 7, RX7), 816), ((86, 18, 0, 0, RX6), 501), ((88, 137, 1, 7, RL), 857), ((88, 118, 1, 7, RX7), 812), ((89, 84, 1, 6, RL), 527), ((89, 1, 1, 0, RX6), 506), ((92, 19, 1, 0, RX6), 507), ((92, 121, 2, 7, RX7), 768), ((92, 140, 1, 7, RL), 865), ((93, 85, 1, 6, RL), 545), ((94, 61, 2, 5, RX0), 310), ((96, 125, 1, 7, RX7), 784), ((96, 142, 1, 7, RL), 869), ((96, 33, 1, 0, RX6), 515), ((97, 86, 0, 6, RL), 569), ((99, 127, 2, 7, RX7), 792), ((99, 34, 1, 0, RX6), 523), ((100, 143, 0, 7, RL), 877), ((101, 87, 1, 6, RL), 577), ((102, 116, 0, 7, RX7), 800), ((102, 23, 0, 0, RX6), 531), ((104, 144, 1, 7, RL), 881), ((105, 24, 0, 0, RX6), 532), ((105, 88, 0, 6, RL), 585), ((106, 119, 1, 7, RX7), 808), ((107, 3, 1, 0, RX0), 338), ((108, 25, 1, 0, RX6), 536), ((108, 145, 0, 7, RL), 885), ((109, 120, 0, 7, RX7), 824), ((109, 89, 1, 6, RL), 593), ((111, 26, 0, 0, RX6), 540), ((112, 154, 1, 7, RL), 889), ((113, 131, 1, 7, RX7), 833), ((113, 26, 0, 0, RX0), 342), ((113, 90, 0, 6, RL), 635), ((114, 27, 0, 0, RX6), 541), ((116, 96, 0, 7, RX7), 845), ((116, 155, 0, 7, RL), 924), ((119, 97, 0, 7, RX7), 849), ((122, 136, 2, 7, RX7), 861), ((123, 28, 1, 0, RX0), 363), ((124, 35, 1, 0, RX6), 549), ((125, 138, 2, 7, RX7), 729), ((127, 53, 1, 2, RX6), 573), ((128, 141, 0, 7, RX7), 873), ((131, 40, 1, 1, RX6), 581), ((134, 41, 0, 1, RX6), 589), ((138, 23, 0, 0, RX0), 418), ((141, 18, 0, 0, RX0), 454), ((141, 42, 1, 1, RX6), 598), ((143, 147, 0, 7, RX7), 904), ((146, 146, 1, 7, RX7), 908), ((155, 148, 1, 7, RX7), 900), ((158, 149, 1, 7, RX7), 912), ((159, 17, 1, 0, RX0), 458), ((161, 150, 1, 7, RX7), 916), ((163, 60, 1, 5, RX0), 395), ((164, 151, 1, 7, RX7), 920), ((166, 62, 1, 5, RX0), 479), ((167, 153, 0, 7, RX7), 893), ((172, 15, 1, 0, RX0), 480), ((175, 16, 0, 0, RX0), 484), ((179, 63, 1, 5, RX0), 462), ((182, 20, 0, 0, RX0), 391), ((185, 21, 2, 0, RX0), 402), ((189, 22, 1, 0, RX0), 406), ((196, 36, 0, 0, RX0), 553), ((199, 37, 0, 0, RX0), 557), ((202, 29, 0, 0, RX0), 561), ((205, 38, 1, 0, RX0), 565)]
def pw_csx : List ((Nat × Int32 × String) × Nat) := [((178, 50000, RX0), 496), ((112, 50000, RX7), 832), ((265, 1431655765, RJ6), 352), ((266, 858993459, RJ6), 353), ((267, 252645135, RJ6), 354)]
/-- a word, by its place in the tables -/
def pw_at (i : Nat) (w : Cond) : Bool := decide (lw_tbl[i]? = some w) && goodWord w
theorem pw_at_ok {i : Nat} {w : Cond} (h : pw_at i w = true) : w ∈ pw_T := by
  unfold pw_at at h
  rw [Bool.and_eq_true, decide_eq_true_eq] at h
  exact List.mem_filter.mpr ⟨List.mem_of_getElem? h.1, h.2⟩
theorem pw_inT {w : Cond} (h : (decide (w ∈ lw_tbl) && goodWord w) = true) : w ∈ pw_T := by
  rw [Bool.and_eq_true, decide_eq_true_eq] at h
  exact List.mem_filter.mpr h
def pw_nat (i : Nat) (f : Cond → Bool) : Bool := match lw_tbl[i]? with
  | some w => f w
  | none => false
def pw_nestF (own : String) (idx ci k : Nat) (w : Cond) : Bool := match w with
  | .fieldLinkNest a b r n d _ => decide (a = own) && decide (b = idx) && decide (r = (pw_tb ci k).1) && decide (n = (pw_tb ci k).2.1) && decide (d = (pw_tb ci k).2.2.1)
  | _ => false
def pw_nestM (own : String) (idx : Nat) (x : MethodName) (w : Cond) : Bool := match w with
  | .methodLinkNest a b y _ => decide (a = own) && decide (b = idx) && decide (y = x)
  | _ => false
theorem pw_clok_all : ∀ ci, ci < 8 → pw_clok ci := by
  intro ci h
  have : ci = 0 ∨ ci = 1 ∨ ci = 2 ∨ ci = 3 ∨ ci = 4 ∨ ci = 5 ∨ ci = 6 ∨ ci = 7 := by omega
  have key : ∀ (ci : Nat), vwCl[ci]? = some (pw_R ci, pw_tb ci, pw_nf ci) → ((u_ws (pw_R ci) (pw_tb ci) (pw_nf ci)).all (fun w => decide (w ∈ lw_tbl) && goodWord w)) = true → (∀ k, k < pw_nf ci → parseFieldDescriptor (pw_tb ci k).2.2.1 = some (pw_ty ci k)) → (∀ a, a < pw_nf ci → ∀ b, b < pw_nf ci → a ≠ b → (pw_tb ci a).2.1 ≠ (pw_tb ci b).2.1) → pw_clok ci :=
    fun ci h1 h2 h3 h4 => ⟨h1, fun w hw => pw_inT (List.all_eq_true.mp h2 w hw), h3, h4⟩
  rcases this with rfl | rfl | rfl | rfl | rfl | rfl | rfl | rfl
  · exact key 0 rfl (by decide +kernel) tyX0_ok nmX0
  · exact key 1 rfl (by decide +kernel) tyX1_ok nmX1
  · exact key 2 rfl (by decide +kernel) tyX2_ok nmX2
  · exact key 3 rfl (by decide +kernel) tyX3_ok nmX3
  · exact key 4 rfl (by decide +kernel) tyX4_ok nmX4
  · exact key 5 rfl (by decide +kernel) tyX5_ok nmX5
  · exact key 6 rfl (by decide +kernel) tyX6_ok nmX6
  · exact key 7 rfl (by decide +kernel) tyX7_ok nmX7
def pw_flb (q : (Nat × Nat × Nat × String) × Nat) : Bool :=
  (pw_at q.2 (Cond.fieldLink q.1.2.2.2 q.1.1 (pw_tb q.1.2.1 q.1.2.2.1).1 (pw_tb q.1.2.1 q.1.2.2.1).2.1 (pw_tb q.1.2.1 q.1.2.2.1).2.2.1) || pw_nat q.2 (pw_nestF q.1.2.2.2 q.1.1 q.1.2.1 q.1.2.2.1)) && (Nat.blt q.1.2.1 8 && Nat.blt q.1.2.2.1 (pw_nf q.1.2.1))
theorem pw_flb_ok {q : (Nat × Nat × Nat × String) × Nat} (h : pw_flb q = true) : pw_fl q.1.2.2.2 q.1.1 q.1.2.1 q.1.2.2.1 ∧ q.1.2.1 < 8 ∧ q.1.2.2.1 < pw_nf q.1.2.1 := by
  unfold pw_flb at h
  rw [Bool.and_eq_true, Bool.and_eq_true, Bool.or_eq_true] at h
  obtain ⟨h, h2, h3⟩ := h
  refine ⟨?_, Nat.blt_eq.mp h2, Nat.blt_eq.mp h3⟩
  rcases h with h | h
  · exact Or.inl (pw_at_ok h)
  · unfold pw_nat at h
    split at h
    · rename_i w hw
      refine Or.inr ?_
      unfold pw_nestF at h
      split at h
      · simp only [Bool.and_eq_true, decide_eq_true_eq] at h
        obtain ⟨⟨⟨⟨rfl, rfl⟩, rfl⟩, rfl⟩, rfl⟩ := h
        exact ⟨_, List.mem_filter.mpr ⟨List.mem_of_getElem? hw, rfl⟩⟩
      · cases h
    · cases h
def pw_fls : List (Nat × Nat × Nat × String) := pw_flx.map (fun q => q.1)
theorem pw_fls_ok : ∀ q ∈ pw_fls, pw_fl q.2.2.2 q.1 q.2.1 q.2.2.1 ∧ q.2.1 < 8 ∧ q.2.2.1 < pw_nf q.2.1 := by
  have h : pw_flx.all pw_flb = true := by decide +kernel
  intro q hq
  obtain ⟨r, hr, rfl⟩ := List.mem_map.mp hq
  exact pw_flb_ok (List.all_eq_true.mp h r hr)
/-- what a method has, whoever calls it -/
def pm_me (y : pm_I) (nargs : Nat) : Prop := Cond.code y.1 y.2.1 y.2.2.1 y.2.2.2 ∈ pw_T ∧ Cond.initialized y.1.cls ∈ pw_T ∧
  (y.1.cls ≠ "java/lang/invoke/MethodHandle" ∧ y.1.cls ≠ "java/lang/invoke/VarHandle" ∧ (parseMethodDescriptor y.1.desc).map (fun d => d.parameters.length) = some nargs) ∧ y.2.2.1 ≤ 11
def pm_meb (y : pm_I) (nargs i j : Nat) : Bool := pw_at i (Cond.code y.1 y.2.1 y.2.2.1 y.2.2.2) && (pw_at j (Cond.initialized y.1.cls) &&
  (decide (y.1.cls ≠ "java/lang/invoke/MethodHandle" ∧ y.1.cls ≠ "java/lang/invoke/VarHandle" ∧ (parseMethodDescriptor y.1.desc).map (fun d => d.parameters.length) = some nargs) && Nat.ble y.2.2.1 11))
theorem pm_meb_ok {y : pm_I} {nargs i j : Nat} (h : pm_meb y nargs i j = true) : pm_me y nargs := by
  unfold pm_meb at h
  rw [Bool.and_eq_true, Bool.and_eq_true, Bool.and_eq_true] at h
  obtain ⟨h1, h2, h3, h4⟩ := h
  exact ⟨pw_at_ok h1, pw_at_ok h2, of_decide_eq_true h3, Nat.le_of_ble_eq_true h4⟩
theorem pw_ms_ok : ∀ q ∈ pw_msx, pm_me (pw_Ms q.1.1) q.1.2 ∧ Cond.static (pw_Ms q.1.1).1 ∈ pw_T := by
  have h : pw_msx.all (fun q => pm_meb (pw_Ms q.1.1) q.1.2 q.2.1 q.2.2.1 && pw_at q.2.2.2 (Cond.static (pw_Ms q.1.1).1)) = true := by decide +kernel
  intro q hq
  have h1 := List.all_eq_true.mp h q hq
  rw [Bool.and_eq_true] at h1
  exact ⟨pm_meb_ok h1.1, pw_at_ok h1.2⟩
def pw_mvb (q : (Nat × Nat × Nat) × Nat × Nat × Nat × Nat) : Bool := pm_meb (pw_Ms q.1.1) q.1.2.1 q.2.1 q.2.2.1 && (pw_at q.2.2.2.1 (Cond.instanceMethod (pw_Ms q.1.1).1) && (pw_at q.2.2.2.2 (Cond.selects (pw_Ms q.1.1).1.cls (pw_Ms q.1.1).1 (pw_Ms q.1.1).1) && (Nat.blt q.1.2.2 8 && decide (pw_R q.1.2.2 = (pw_Ms q.1.1).1.cls))))
theorem pw_mv_ok : ∀ q ∈ pw_mvx, pm_me (pw_Ms q.1.1) q.1.2.1 ∧ Cond.instanceMethod (pw_Ms q.1.1).1 ∈ pw_T ∧ Cond.selects (pw_Ms q.1.1).1.cls (pw_Ms q.1.1).1 (pw_Ms q.1.1).1 ∈ pw_T ∧ q.1.2.2 < 8 ∧ pw_R q.1.2.2 = (pw_Ms q.1.1).1.cls ∧ pw_clok q.1.2.2 := by
  have h0 : (pw_mvx.take 30).all pw_mvb = true := by decide +kernel
  have h1 : ((pw_mvx.drop 30).take 30).all pw_mvb = true := by decide +kernel
  have h2 : ((pw_mvx.drop 60).take 30).all pw_mvb = true := by decide +kernel
  have h3 : ((pw_mvx.drop 90).take 30).all pw_mvb = true := by decide +kernel
  have h4 : (pw_mvx.drop 120).all pw_mvb = true := by decide +kernel
  have h : pw_mvx.all pw_mvb = true := by
    have e : pw_mvx = pw_mvx.take 30 ++ ((pw_mvx.drop 30).take 30 ++ ((pw_mvx.drop 60).take 30 ++ ((pw_mvx.drop 90).take 30 ++ pw_mvx.drop 120))) := by decide +kernel
    rw [e, List.all_append, List.all_append, List.all_append, List.all_append, h0, h1, h2, h3, h4]
    rfl
  intro q hq
  have h1 := List.all_eq_true.mp h q hq
  unfold pw_mvb at h1
  rw [Bool.and_eq_true, Bool.and_eq_true, Bool.and_eq_true, Bool.and_eq_true] at h1
  obtain ⟨h1, h2, h3, h4, h5⟩ := h1
  exact ⟨pm_meb_ok h1, pw_at_ok h2, pw_at_ok h3, Nat.blt_eq.mp h4, of_decide_eq_true h5, pw_clok_all _ (Nat.blt_eq.mp h4)⟩
def pm_lkb (own : String) (idx : Nat) (x : MethodName) (i : Nat) : Bool := pw_at i (Cond.methodLink own idx x) || pw_nat i (pw_nestM own idx x)
theorem pm_lkb_ok {own : String} {idx : Nat} {x : MethodName} {i : Nat} (h : pm_lkb own idx x i = true) : Cond.methodLink own idx x ∈ pw_T ∨ ∃ host, Cond.methodLinkNest own idx x host ∈ pw_N := by
  unfold pm_lkb at h
  rw [Bool.or_eq_true] at h
  rcases h with h | h
  · exact Or.inl (pw_at_ok h)
  · unfold pw_nat at h
    split at h
    · rename_i w hw
      refine Or.inr ?_
      unfold pw_nestM at h
      split at h
      · simp only [Bool.and_eq_true, decide_eq_true_eq] at h
        obtain ⟨⟨rfl, rfl⟩, rfl⟩ := h
        exact ⟨_, List.mem_filter.mpr ⟨List.mem_of_getElem? hw, rfl⟩⟩
      · cases h
    · cases h
theorem pm_me.ln {own : String} {idx nargs : Nat} {y : pm_I} (h : pm_me y nargs) (hl : Cond.methodLink own idx y.1 ∈ pw_T ∨ ∃ host, Cond.methodLinkNest own idx y.1 host ∈ pw_N) : pm_ln own idx y nargs := ⟨h.1, h.2.1, hl, h.2.2.1, h.2.2.2⟩
def pw_sls : List (Nat × Nat × Nat × String) := pw_slx.map (fun q => q.1)
theorem pw_sls_ok : ∀ q ∈ pw_sls, pm_lnS q.2.2.2 q.1 (pw_Ms q.2.1) q.2.2.1 := by
  have h : pw_slx.all (fun q => pm_lkb q.1.2.2.2 q.1.1 (pw_Ms q.1.2.1).1 q.2 && pw_msx.any (fun r => Nat.beq r.1.1 q.1.2.1 && Nat.beq r.1.2 q.1.2.2.1)) = true := by decide +kernel
  intro q hq
  obtain ⟨x, hx, rfl⟩ := List.mem_map.mp hq
  have h1 := List.all_eq_true.mp h x hx
  rw [Bool.and_eq_true] at h1
  obtain ⟨r, hr, h2⟩ := List.any_eq_true.mp h1.2
  rw [Bool.and_eq_true] at h2
  have h3 := pw_ms_ok r hr
  rw [Nat.eq_of_beq_eq_true h2.1, Nat.eq_of_beq_eq_true h2.2] at h3
  exact ⟨h3.1.ln (pm_lkb_ok h1.1), h3.2⟩
def pw_vls : List (Nat × Nat × Nat × Nat × String) := pw_vlx.map (fun q => q.1)
def pw_vlb (q : (Nat × Nat × Nat × Nat × String) × Nat) : Bool := pm_lkb q.1.2.2.2.2 q.1.1 (pw_Ms q.1.2.1).1 q.2 && pw_mvx.any (fun r => Nat.beq r.1.1 q.1.2.1 && (Nat.beq r.1.2.1 q.1.2.2.1 && Nat.beq r.1.2.2 q.1.2.2.2.1))
theorem pw_vls_ok : ∀ q ∈ pw_vls, pm_lnV q.2.2.2.2 q.1 (pw_Ms q.2.1) q.2.2.1 q.2.2.2.1 := by
  have h0 : (pw_vlx.take 60).all pw_vlb = true := by decide +kernel
  have h1 : ((pw_vlx.drop 60).take 60).all pw_vlb = true := by decide +kernel
  have h2 : (pw_vlx.drop 120).all pw_vlb = true := by decide +kernel
  have h : pw_vlx.all pw_vlb = true := by
    have e : pw_vlx = pw_vlx.take 60 ++ ((pw_vlx.drop 60).take 60 ++ pw_vlx.drop 120) := by decide +kernel
    rw [e, List.all_append, List.all_append, h0, h1, h2]
    rfl
  intro q hq
  obtain ⟨x, hx, rfl⟩ := List.mem_map.mp hq
  have h1 := List.all_eq_true.mp h x hx
  unfold pw_vlb at h1
  rw [Bool.and_eq_true] at h1
  obtain ⟨r, hr, h2⟩ := List.any_eq_true.mp h1.2
  rw [Bool.and_eq_true, Bool.and_eq_true] at h2
  have h3 := pw_mv_ok r hr
  rw [Nat.eq_of_beq_eq_true h2.1, Nat.eq_of_beq_eq_true h2.2.1, Nat.eq_of_beq_eq_true h2.2.2] at h3
  exact ⟨h3.1.ln (pm_lkb_ok h1.1), h3.2⟩
def pw_csl : List (Nat × Int32 × String) := pw_csx.map (fun q => q.1)
theorem pw_csl_ok : ∀ q ∈ pw_csl, Cond.constant q.2.2 q.1 q.2.1 ∈ pw_T := by
  have h : pw_csx.all (fun q => pw_at q.2 (Cond.constant q.1.2.2 q.1.1 q.1.2.1)) = true := by decide +kernel
  intro q hq
  obtain ⟨x, hx, rfl⟩ := List.mem_map.mp hq
  exact pw_at_ok (List.all_eq_true.mp h x hx)
/-- the check of an entry, for the kernel -/
def pm_okb (own : String) (code : ByteArray) (pc : Nat) (q : pm_E) : Bool := match q with
  | (i, nx, a, b, c, v, sw) => decide (decode code pc = .ok (i, nx - pc)) && (decide (pc < nx) && match i with
    | .iconst x => decide (nx = pc + 1 ∧ Int32.ofInt x = v)
    | .bipush x => decide (nx = pc + 2 ∧ (Int8.ofInt x).toInt32 = v)
    | .sipush x => decide (nx = pc + 3 ∧ (Int16.ofInt x).toInt32 = v)
    | .ldc x => decide (nx = pc + 2 ∧ (x, v, own) ∈ pw_csl)
    | .ldc_w x => decide (nx = pc + 3 ∧ (x, v, own) ∈ pw_csl)
    | .iload _ => decide (nx = pc + 2)
    | .aload _ => decide (nx = pc + 2)
    | .istore _ => decide (nx = pc + 2)
    | .astore _ => decide (nx = pc + 2)
    | .iinc _ x => decide (nx = pc + 3 ∧ Int32.ofInt x = v)
    | .goto off => decide (nx = pc + 3 ∧ (pc : Int) + off = (a : Int))
    | .ifCond _ off => decide (nx = pc + 3 ∧ (pc : Int) + off = (a : Int))
    | .if_icmp _ off => decide (nx = pc + 3 ∧ (pc : Int) + off = (a : Int))
    | .tableswitch d lo hi offs => decide ((pc : Int) + d = (a : Int) ∧ -2147483648 ≤ lo ∧ hi < 2147483648 ∧ offs.size = (hi + 1 - lo).toNat ∧ sw = (List.range offs.size).map (fun (j : Nat) => (Int32.ofInt (lo + (j : Int)), ((pc : Int) + offs.getD j 0).toNat)) ∧ (List.range offs.size).all (fun (j : Nat) => decide (0 ≤ (pc : Int) + offs.getD j 0)) = true)
    | .lookupswitch d ps => decide ((pc : Int) + d = (a : Int) ∧ (ps.toList.zip (ps.toList.drop 1)).all (fun (a, next) => a.1 < next.1) = true ∧ sw = ps.toList.map (fun q => (Int32.ofInt q.1, ((pc : Int) + q.2).toNat)) ∧ ps.toList.all (fun q => decide (0 ≤ (pc : Int) + q.2 ∧ -2147483648 ≤ q.1 ∧ q.1 < 2147483648)) = true)
    | .getfield x => decide (nx = pc + 3 ∧ (x, a, b, own) ∈ pw_fls ∧ pw_rf a b = (match sw with
      | [] => false
      | _ => true))
    | .putfield x => decide (nx = pc + 3 ∧ (x, a, b, own) ∈ pw_fls ∧ pw_rf a b = false ∧ (pw_tb a b).2.2.2 = false ∧ pw_ty a b = (match sw with
      | [] => .int
      | _ => .boolean))
    | .invokestatic x => decide (nx = pc + 3 ∧ (x, a, b, own) ∈ pw_sls)
    | .invokevirtual x => decide (nx = pc + 3 ∧ (x, a, b, c, own) ∈ pw_vls)
    | _ => decide (nx = pc + 1))
theorem pm_okb_ok {y : pm_I} {pc : Nat} {q : pm_E} (h : pm_okb y.1.cls y.2.1 pc q = true) : pm_ok y pw_Ms pc q := by
  obtain ⟨i, nx, a, b, c, v, sw⟩ := q
  unfold pm_okb at h
  dsimp only at h
  rw [Bool.and_eq_true, Bool.and_eq_true, decide_eq_true_eq, decide_eq_true_eq] at h
  obtain ⟨h1, h2, h⟩ := h
  refine ⟨h1, h2, ?_⟩
  cases i <;> (try dsimp only at h ⊢) <;> rw [decide_eq_true_eq] at h <;> try exact h
  case ldc x => exact ⟨h.1, pw_csl_ok _ h.2⟩
  case ldc_w x => exact ⟨h.1, pw_csl_ok _ h.2⟩
  case getfield x =>
    obtain ⟨h3, h4, h5⟩ := h
    obtain ⟨h6, h7, h8⟩ := pw_fls_ok _ h4
    exact ⟨h3, h7, pw_clok_all _ h7, h8, h6, h5⟩
  case putfield x =>
    obtain ⟨h3, h4, h5, h9, h10⟩ := h
    obtain ⟨h6, h7, h8⟩ := pw_fls_ok _ h4
    refine ⟨h3, h7, pw_clok_all _ h7, h8, h6, h5, h9, ?_⟩
    cases sw <;> exact h10
  case invokestatic x => exact ⟨h.1, pw_sls_ok _ h.2⟩
  case invokevirtual x => exact ⟨h.1, pw_vls_ok _ h.2⟩
def pm_lk : List (Nat × pm_E) → Nat → pm_E
  | [], _ => (.nop, 0, 0, 0, 0, 0, [])
  | (k, q) :: r, pc => bif Nat.beq k pc then q else pm_lk r pc
theorem pm_lk_ok {y : pm_I} {lt : List (Nat × pm_E)} (h : lt.all (fun q => pm_okb y.1.cls y.2.1 q.1 q.2) = true) : ∀ pc, (pm_lk lt pc).1 = .nop ∨ pm_ok y pw_Ms pc (pm_lk lt pc) := by
  intro pc
  induction lt with
  | nil => exact Or.inl rfl
  | cons q r ih =>
    obtain ⟨k, q⟩ := q
    rw [List.all_cons, Bool.and_eq_true] at h
    unfold pm_lk
    cases e : Nat.beq k pc with
    | true =>
      have : k = pc := Nat.eq_of_beq_eq_true e
      subst this
      exact Or.inr (pm_okb_ok h.1)
    | false => exact ih h.2
end
