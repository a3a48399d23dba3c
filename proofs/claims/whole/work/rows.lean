section
/-- a private method of a class that the tables say can be made, by its rows of tables_1 -/
def lw_okq (q : MethodName × Nat) : Prop := (q.1.cls ≠ "java/lang/invoke/MethodHandle" ∧ q.1.cls ≠ "java/lang/invoke/VarHandle") ∧ Cond.instantiable q.1.cls q.2 ∈ tables_1 ∧ Cond.privateMethod q.1 ∈ tables_1 ∧ Cond.instanceMethod q.1 ∈ tables_1
theorem lw_p0 : lw_okq (⟨"LampRanks$History", "dropOldest", "()V"⟩, 2) := ⟨⟨by decide +kernel, by decide +kernel⟩, List.mem_of_getElem? (i := 161) (by decide +kernel), List.mem_of_getElem? (i := 270) (by decide +kernel), List.mem_of_getElem? (i := 271) (by decide +kernel)⟩
theorem lw_p1 : lw_okq (⟨"LampRanks$Board", "linesBelow", "(I)I"⟩, 12) := ⟨⟨by decide +kernel, by decide +kernel⟩, List.mem_of_getElem? (i := 21) (by decide +kernel), List.mem_of_getElem? (i := 315) (by decide +kernel), List.mem_of_getElem? (i := 316) (by decide +kernel)⟩
theorem lw_p2 : lw_okq (⟨"LampRanks$Board", "lowestRank", "()I"⟩, 12) := ⟨⟨by decide +kernel, by decide +kernel⟩, List.mem_of_getElem? (i := 21) (by decide +kernel), List.mem_of_getElem? (i := 343) (by decide +kernel), List.mem_of_getElem? (i := 344) (by decide +kernel)⟩
theorem lw_p3 : lw_okq (⟨"LampRanks$Board", "isReady", "(II)Z"⟩, 12) := ⟨⟨by decide +kernel, by decide +kernel⟩, List.mem_of_getElem? (i := 21) (by decide +kernel), List.mem_of_getElem? (i := 354) (by decide +kernel), List.mem_of_getElem? (i := 355) (by decide +kernel)⟩
theorem lw_p4 : lw_okq (⟨"LampRanks$Board", "isMasked", "(I)Z"⟩, 12) := ⟨⟨by decide +kernel, by decide +kernel⟩, List.mem_of_getElem? (i := 21) (by decide +kernel), List.mem_of_getElem? (i := 358) (by decide +kernel), List.mem_of_getElem? (i := 359) (by decide +kernel)⟩
theorem lw_p5 : lw_okq (⟨"LampRanks$Board", "turnInputs", "(I)V"⟩, 12) := ⟨⟨by decide +kernel, by decide +kernel⟩, List.mem_of_getElem? (i := 21) (by decide +kernel), List.mem_of_getElem? (i := 410) (by decide +kernel), List.mem_of_getElem? (i := 411) (by decide +kernel)⟩
theorem lw_p6 : lw_okq (⟨"LampRanks$Board", "queueAcknowledge", "(I)V"⟩, 12) := ⟨⟨by decide +kernel, by decide +kernel⟩, List.mem_of_getElem? (i := 21) (by decide +kernel), List.mem_of_getElem? (i := 432) (by decide +kernel), List.mem_of_getElem? (i := 433) (by decide +kernel)⟩
theorem lw_p7 : lw_okq (⟨"LampRanks$Board", "acknowledgeDue", "()I"⟩, 12) := ⟨⟨by decide +kernel, by decide +kernel⟩, List.mem_of_getElem? (i := 21) (by decide +kernel), List.mem_of_getElem? (i := 436) (by decide +kernel), List.mem_of_getElem? (i := 437) (by decide +kernel)⟩
theorem lw_p8 : lw_okq (⟨"LampRanks$Board", "allEdges", "()I"⟩, 12) := ⟨⟨by decide +kernel, by decide +kernel⟩, List.mem_of_getElem? (i := 21) (by decide +kernel), List.mem_of_getElem? (i := 505) (by decide +kernel), List.mem_of_getElem? (i := 506) (by decide +kernel)⟩
theorem lw_p9 : lw_okq (⟨"LampRanks$Board", "allLost", "()I"⟩, 12) := ⟨⟨by decide +kernel, by decide +kernel⟩, List.mem_of_getElem? (i := 21) (by decide +kernel), List.mem_of_getElem? (i := 509) (by decide +kernel), List.mem_of_getElem? (i := 510) (by decide +kernel)⟩
theorem lw_p10 : lw_okq (⟨"LampRanks$Board", "edgeLineSet", "()I"⟩, 12) := ⟨⟨by decide +kernel, by decide +kernel⟩, List.mem_of_getElem? (i := 21) (by decide +kernel), List.mem_of_getElem? (i := 513) (by decide +kernel), List.mem_of_getElem? (i := 514) (by decide +kernel)⟩
theorem lw_p11 : lw_okq (⟨"LampRanks$Board", "allTaken", "(Z)I"⟩, 12) := ⟨⟨by decide +kernel, by decide +kernel⟩, List.mem_of_getElem? (i := 21) (by decide +kernel), List.mem_of_getElem? (i := 517) (by decide +kernel), List.mem_of_getElem? (i := 518) (by decide +kernel)⟩
theorem lw_p12 : lw_okq (⟨"LampRanks$EventText", "readEvent", "()Z"⟩, 7) := ⟨⟨by decide +kernel, by decide +kernel⟩, List.mem_of_getElem? (i := 178) (by decide +kernel), List.mem_of_getElem? (i := 554) (by decide +kernel), List.mem_of_getElem? (i := 555) (by decide +kernel)⟩
theorem lw_p13 : lw_okq (⟨"LampRanks$EventText", "signAt", "(I)C"⟩, 7) := ⟨⟨by decide +kernel, by decide +kernel⟩, List.mem_of_getElem? (i := 178) (by decide +kernel), List.mem_of_getElem? (i := 558) (by decide +kernel), List.mem_of_getElem? (i := 559) (by decide +kernel)⟩
theorem lw_p14 : lw_okq (⟨"LampRanks$EventText", "readNumber", "()I"⟩, 7) := ⟨⟨by decide +kernel, by decide +kernel⟩, List.mem_of_getElem? (i := 178) (by decide +kernel), List.mem_of_getElem? (i := 562) (by decide +kernel), List.mem_of_getElem? (i := 563) (by decide +kernel)⟩
theorem lw_p15 : lw_okq (⟨"LampRanks$EventText", "digitAt", "(I)I"⟩, 7) := ⟨⟨by decide +kernel, by decide +kernel⟩, List.mem_of_getElem? (i := 178) (by decide +kernel), List.mem_of_getElem? (i := 566) (by decide +kernel), List.mem_of_getElem? (i := 567) (by decide +kernel)⟩
def lw_privs_1 : List (MethodName × Nat) := [(⟨"LampRanks$History", "dropOldest", "()V"⟩, 2), (⟨"LampRanks$Board", "linesBelow", "(I)I"⟩, 12), (⟨"LampRanks$Board", "lowestRank", "()I"⟩, 12), (⟨"LampRanks$Board", "isReady", "(II)Z"⟩, 12), (⟨"LampRanks$Board", "isMasked", "(I)Z"⟩, 12), (⟨"LampRanks$Board", "turnInputs", "(I)V"⟩, 12), (⟨"LampRanks$Board", "queueAcknowledge", "(I)V"⟩, 12), (⟨"LampRanks$Board", "acknowledgeDue", "()I"⟩, 12), (⟨"LampRanks$Board", "allEdges", "()I"⟩, 12), (⟨"LampRanks$Board", "allLost", "()I"⟩, 12), (⟨"LampRanks$Board", "edgeLineSet", "()I"⟩, 12), (⟨"LampRanks$Board", "allTaken", "(Z)I"⟩, 12), (⟨"LampRanks$EventText", "readEvent", "()Z"⟩, 7), (⟨"LampRanks$EventText", "signAt", "(I)C"⟩, 7), (⟨"LampRanks$EventText", "readNumber", "()I"⟩, 7), (⟨"LampRanks$EventText", "digitAt", "(I)I"⟩, 7)]
theorem lw_r1 : ∀ q ∈ lw_privs_1, lw_okq q := List.forall_mem_cons.mpr ⟨lw_p0, List.forall_mem_cons.mpr ⟨lw_p1, List.forall_mem_cons.mpr ⟨lw_p2, List.forall_mem_cons.mpr ⟨lw_p3, List.forall_mem_cons.mpr ⟨lw_p4, List.forall_mem_cons.mpr ⟨lw_p5, List.forall_mem_cons.mpr ⟨lw_p6, List.forall_mem_cons.mpr ⟨lw_p7, List.forall_mem_cons.mpr ⟨lw_p8, List.forall_mem_cons.mpr ⟨lw_p9, List.forall_mem_cons.mpr ⟨lw_p10, List.forall_mem_cons.mpr ⟨lw_p11, List.forall_mem_cons.mpr ⟨lw_p12, List.forall_mem_cons.mpr ⟨lw_p13, List.forall_mem_cons.mpr ⟨lw_p14, List.forall_mem_cons.mpr ⟨lw_p15, fun _ h => absurd h List.not_mem_nil⟩⟩⟩⟩⟩⟩⟩⟩⟩⟩⟩⟩⟩⟩⟩⟩
theorem lw_p16 : lw_okq (⟨"LampRanks$EventText", "readSign", "(C)Z"⟩, 7) := ⟨⟨by decide +kernel, by decide +kernel⟩, List.mem_of_getElem? (i := 178) (by decide +kernel), List.mem_of_getElem? (i := 570) (by decide +kernel), List.mem_of_getElem? (i := 571) (by decide +kernel)⟩
theorem lw_p17 : lw_okq (⟨"LampRanks$EventText", "answerOf", "(LLampRanks$Board;)I"⟩, 7) := ⟨⟨by decide +kernel, by decide +kernel⟩, List.mem_of_getElem? (i := 178) (by decide +kernel), List.mem_of_getElem? (i := 574) (by decide +kernel), List.mem_of_getElem? (i := 575) (by decide +kernel)⟩
theorem lw_p18 : lw_okq (⟨"LampRanksModel", "isNode", "(I)Z"⟩, 13) := ⟨⟨by decide +kernel, by decide +kernel⟩, List.mem_of_getElem? (i := 591) (by decide +kernel), List.mem_of_getElem? (i := 641) (by decide +kernel), List.mem_of_getElem? (i := 642) (by decide +kernel)⟩
theorem lw_p19 : lw_okq (⟨"LampRanksModel", "record", "()V"⟩, 13) := ⟨⟨by decide +kernel, by decide +kernel⟩, List.mem_of_getElem? (i := 591) (by decide +kernel), List.mem_of_getElem? (i := 651) (by decide +kernel), List.mem_of_getElem? (i := 652) (by decide +kernel)⟩
theorem lw_p20 : lw_okq (⟨"LampRanksModel", "hang", "(II)V"⟩, 13) := ⟨⟨by decide +kernel, by decide +kernel⟩, List.mem_of_getElem? (i := 591) (by decide +kernel), List.mem_of_getElem? (i := 658) (by decide +kernel), List.mem_of_getElem? (i := 659) (by decide +kernel)⟩
theorem lw_p21 : lw_okq (⟨"LampRanksModel", "isLine", "(I)Z"⟩, 13) := ⟨⟨by decide +kernel, by decide +kernel⟩, List.mem_of_getElem? (i := 591) (by decide +kernel), List.mem_of_getElem? (i := 673) (by decide +kernel), List.mem_of_getElem? (i := 674) (by decide +kernel)⟩
theorem lw_p22 : lw_okq (⟨"LampRanksModel", "linesOf", "(I)I"⟩, 13) := ⟨⟨by decide +kernel, by decide +kernel⟩, List.mem_of_getElem? (i := 591) (by decide +kernel), List.mem_of_getElem? (i := 677) (by decide +kernel), List.mem_of_getElem? (i := 678) (by decide +kernel)⟩
theorem lw_p23 : lw_okq (⟨"LampRanksModel", "isOf", "(II)Z"⟩, 13) := ⟨⟨by decide +kernel, by decide +kernel⟩, List.mem_of_getElem? (i := 591) (by decide +kernel), List.mem_of_getElem? (i := 681) (by decide +kernel), List.mem_of_getElem? (i := 682) (by decide +kernel)⟩
theorem lw_p24 : lw_okq (⟨"LampRanksModel", "isReady", "(I)Z"⟩, 13) := ⟨⟨by decide +kernel, by decide +kernel⟩, List.mem_of_getElem? (i := 591) (by decide +kernel), List.mem_of_getElem? (i := 685) (by decide +kernel), List.mem_of_getElem? (i := 686) (by decide +kernel)⟩
theorem lw_p25 : lw_okq (⟨"LampRanksModel", "isHidden", "(I)Z"⟩, 13) := ⟨⟨by decide +kernel, by decide +kernel⟩, List.mem_of_getElem? (i := 591) (by decide +kernel), List.mem_of_getElem? (i := 689) (by decide +kernel), List.mem_of_getElem? (i := 690) (by decide +kernel)⟩
theorem lw_p26 : lw_okq (⟨"LampRanksModel", "linesBy", "(I)I"⟩, 13) := ⟨⟨by decide +kernel, by decide +kernel⟩, List.mem_of_getElem? (i := 591) (by decide +kernel), List.mem_of_getElem? (i := 700) (by decide +kernel), List.mem_of_getElem? (i := 701) (by decide +kernel)⟩
theorem lw_p27 : lw_okq (⟨"LampRanksModel", "isOnWay", "(II)Z"⟩, 13) := ⟨⟨by decide +kernel, by decide +kernel⟩, List.mem_of_getElem? (i := 591) (by decide +kernel), List.mem_of_getElem? (i := 704) (by decide +kernel), List.mem_of_getElem? (i := 705) (by decide +kernel)⟩
theorem lw_p28 : lw_okq (⟨"LampRanksModel", "litState", "(II)I"⟩, 13) := ⟨⟨by decide +kernel, by decide +kernel⟩, List.mem_of_getElem? (i := 591) (by decide +kernel), List.mem_of_getElem? (i := 720) (by decide +kernel), List.mem_of_getElem? (i := 721) (by decide +kernel)⟩
theorem lw_p29 : lw_okq (⟨"LampRanksModel", "goEdge", "(I)I"⟩, 13) := ⟨⟨by decide +kernel, by decide +kernel⟩, List.mem_of_getElem? (i := 591) (by decide +kernel), List.mem_of_getElem? (i := 736) (by decide +kernel), List.mem_of_getElem? (i := 737) (by decide +kernel)⟩
theorem lw_p30 : lw_okq (⟨"LampRanksModel", "canLevel", "(II)Z"⟩, 13) := ⟨⟨by decide +kernel, by decide +kernel⟩, List.mem_of_getElem? (i := 591) (by decide +kernel), List.mem_of_getElem? (i := 744) (by decide +kernel), List.mem_of_getElem? (i := 745) (by decide +kernel)⟩
theorem lw_p31 : lw_okq (⟨"LampRanksModel", "nextLine", "()I"⟩, 13) := ⟨⟨by decide +kernel, by decide +kernel⟩, List.mem_of_getElem? (i := 591) (by decide +kernel), List.mem_of_getElem? (i := 752) (by decide +kernel), List.mem_of_getElem? (i := 753) (by decide +kernel)⟩
def lw_privs_2 : List (MethodName × Nat) := [(⟨"LampRanks$EventText", "readSign", "(C)Z"⟩, 7), (⟨"LampRanks$EventText", "answerOf", "(LLampRanks$Board;)I"⟩, 7), (⟨"LampRanksModel", "isNode", "(I)Z"⟩, 13), (⟨"LampRanksModel", "record", "()V"⟩, 13), (⟨"LampRanksModel", "hang", "(II)V"⟩, 13), (⟨"LampRanksModel", "isLine", "(I)Z"⟩, 13), (⟨"LampRanksModel", "linesOf", "(I)I"⟩, 13), (⟨"LampRanksModel", "isOf", "(II)Z"⟩, 13), (⟨"LampRanksModel", "isReady", "(I)Z"⟩, 13), (⟨"LampRanksModel", "isHidden", "(I)Z"⟩, 13), (⟨"LampRanksModel", "linesBy", "(I)I"⟩, 13), (⟨"LampRanksModel", "isOnWay", "(II)Z"⟩, 13), (⟨"LampRanksModel", "litState", "(II)I"⟩, 13), (⟨"LampRanksModel", "goEdge", "(I)I"⟩, 13), (⟨"LampRanksModel", "canLevel", "(II)Z"⟩, 13), (⟨"LampRanksModel", "nextLine", "()I"⟩, 13)]
theorem lw_r2 : ∀ q ∈ lw_privs_2, lw_okq q := List.forall_mem_cons.mpr ⟨lw_p16, List.forall_mem_cons.mpr ⟨lw_p17, List.forall_mem_cons.mpr ⟨lw_p18, List.forall_mem_cons.mpr ⟨lw_p19, List.forall_mem_cons.mpr ⟨lw_p20, List.forall_mem_cons.mpr ⟨lw_p21, List.forall_mem_cons.mpr ⟨lw_p22, List.forall_mem_cons.mpr ⟨lw_p23, List.forall_mem_cons.mpr ⟨lw_p24, List.forall_mem_cons.mpr ⟨lw_p25, List.forall_mem_cons.mpr ⟨lw_p26, List.forall_mem_cons.mpr ⟨lw_p27, List.forall_mem_cons.mpr ⟨lw_p28, List.forall_mem_cons.mpr ⟨lw_p29, List.forall_mem_cons.mpr ⟨lw_p30, List.forall_mem_cons.mpr ⟨lw_p31, fun _ h => absurd h List.not_mem_nil⟩⟩⟩⟩⟩⟩⟩⟩⟩⟩⟩⟩⟩⟩⟩⟩
theorem lw_p32 : lw_okq (⟨"LampRanksModel", "layOrder", "()V"⟩, 13) := ⟨⟨by decide +kernel, by decide +kernel⟩, List.mem_of_getElem? (i := 591) (by decide +kernel), List.mem_of_getElem? (i := 756) (by decide +kernel), List.mem_of_getElem? (i := 757) (by decide +kernel)⟩
theorem lw_p33 : lw_okq (⟨"LampRanksModel", "goTake", "(I)V"⟩, 13) := ⟨⟨by decide +kernel, by decide +kernel⟩, List.mem_of_getElem? (i := 591) (by decide +kernel), List.mem_of_getElem? (i := 760) (by decide +kernel), List.mem_of_getElem? (i := 761) (by decide +kernel)⟩
theorem lw_p34 : lw_okq (⟨"LampRanksModel", "turnWay", "(I)V"⟩, 13) := ⟨⟨by decide +kernel, by decide +kernel⟩, List.mem_of_getElem? (i := 591) (by decide +kernel), List.mem_of_getElem? (i := 764) (by decide +kernel), List.mem_of_getElem? (i := 765) (by decide +kernel)⟩
theorem lw_p35 : lw_okq (⟨"LampRanksModel", "turnBehind", "(II)V"⟩, 13) := ⟨⟨by decide +kernel, by decide +kernel⟩, List.mem_of_getElem? (i := 591) (by decide +kernel), List.mem_of_getElem? (i := 768) (by decide +kernel), List.mem_of_getElem? (i := 769) (by decide +kernel)⟩
theorem lw_p36 : lw_okq (⟨"LampRanksModel", "goDone", "()I"⟩, 13) := ⟨⟨by decide +kernel, by decide +kernel⟩, List.mem_of_getElem? (i := 591) (by decide +kernel), List.mem_of_getElem? (i := 776) (by decide +kernel), List.mem_of_getElem? (i := 777) (by decide +kernel)⟩
theorem lw_p37 : lw_okq (⟨"LampRanksModel", "goTicks", "(I)I"⟩, 13) := ⟨⟨by decide +kernel, by decide +kernel⟩, List.mem_of_getElem? (i := 591) (by decide +kernel), List.mem_of_getElem? (i := 785) (by decide +kernel), List.mem_of_getElem? (i := 786) (by decide +kernel)⟩
theorem lw_p38 : lw_okq (⟨"LampRanksModel", "layAside", "()V"⟩, 13) := ⟨⟨by decide +kernel, by decide +kernel⟩, List.mem_of_getElem? (i := 591) (by decide +kernel), List.mem_of_getElem? (i := 797) (by decide +kernel), List.mem_of_getElem? (i := 798) (by decide +kernel)⟩
theorem lw_p39 : lw_okq (⟨"LampRanksModel", "layBack", "()V"⟩, 13) := ⟨⟨by decide +kernel, by decide +kernel⟩, List.mem_of_getElem? (i := 591) (by decide +kernel), List.mem_of_getElem? (i := 801) (by decide +kernel), List.mem_of_getElem? (i := 802) (by decide +kernel)⟩
theorem lw_p40 : lw_okq (⟨"LampRanksModel", "isAhead", "(II)Z"⟩, 13) := ⟨⟨by decide +kernel, by decide +kernel⟩, List.mem_of_getElem? (i := 591) (by decide +kernel), List.mem_of_getElem? (i := 813) (by decide +kernel), List.mem_of_getElem? (i := 814) (by decide +kernel)⟩
theorem lw_p41 : lw_okq (⟨"LampRanksModel", "litEdges", "()I"⟩, 13) := ⟨⟨by decide +kernel, by decide +kernel⟩, List.mem_of_getElem? (i := 591) (by decide +kernel), List.mem_of_getElem? (i := 825) (by decide +kernel), List.mem_of_getElem? (i := 826) (by decide +kernel)⟩
theorem lw_p42 : lw_okq (⟨"LampRanksModel", "run", "()I"⟩, 13) := ⟨⟨by decide +kernel, by decide +kernel⟩, List.mem_of_getElem? (i := 591) (by decide +kernel), List.mem_of_getElem? (i := 845) (by decide +kernel), List.mem_of_getElem? (i := 846) (by decide +kernel)⟩
theorem lw_p43 : lw_okq (⟨"LampRanksModel", "isForm", "(I)Z"⟩, 13) := ⟨⟨by decide +kernel, by decide +kernel⟩, List.mem_of_getElem? (i := 591) (by decide +kernel), List.mem_of_getElem? (i := 852) (by decide +kernel), List.mem_of_getElem? (i := 853) (by decide +kernel)⟩
theorem lw_p44 : lw_okq (⟨"LampRanksModel", "number", "()I"⟩, 13) := ⟨⟨by decide +kernel, by decide +kernel⟩, List.mem_of_getElem? (i := 591) (by decide +kernel), List.mem_of_getElem? (i := 856) (by decide +kernel), List.mem_of_getElem? (i := 857) (by decide +kernel)⟩
theorem lw_p45 : lw_okq (⟨"LampRanksModel", "sees", "(I)Z"⟩, 13) := ⟨⟨by decide +kernel, by decide +kernel⟩, List.mem_of_getElem? (i := 591) (by decide +kernel), List.mem_of_getElem? (i := 860) (by decide +kernel), List.mem_of_getElem? (i := 861) (by decide +kernel)⟩
theorem lw_p46 : lw_okq (⟨"LampRanksModel", "isRange", "(I)Z"⟩, 13) := ⟨⟨by decide +kernel, by decide +kernel⟩, List.mem_of_getElem? (i := 591) (by decide +kernel), List.mem_of_getElem? (i := 864) (by decide +kernel), List.mem_of_getElem? (i := 865) (by decide +kernel)⟩
theorem lw_p47 : lw_okq (⟨"LampRanksModel", "isPossible", "(I)Z"⟩, 13) := ⟨⟨by decide +kernel, by decide +kernel⟩, List.mem_of_getElem? (i := 591) (by decide +kernel), List.mem_of_getElem? (i := 868) (by decide +kernel), List.mem_of_getElem? (i := 869) (by decide +kernel)⟩
def lw_privs_3 : List (MethodName × Nat) := [(⟨"LampRanksModel", "layOrder", "()V"⟩, 13), (⟨"LampRanksModel", "goTake", "(I)V"⟩, 13), (⟨"LampRanksModel", "turnWay", "(I)V"⟩, 13), (⟨"LampRanksModel", "turnBehind", "(II)V"⟩, 13), (⟨"LampRanksModel", "goDone", "()I"⟩, 13), (⟨"LampRanksModel", "goTicks", "(I)I"⟩, 13), (⟨"LampRanksModel", "layAside", "()V"⟩, 13), (⟨"LampRanksModel", "layBack", "()V"⟩, 13), (⟨"LampRanksModel", "isAhead", "(II)Z"⟩, 13), (⟨"LampRanksModel", "litEdges", "()I"⟩, 13), (⟨"LampRanksModel", "run", "()I"⟩, 13), (⟨"LampRanksModel", "isForm", "(I)Z"⟩, 13), (⟨"LampRanksModel", "number", "()I"⟩, 13), (⟨"LampRanksModel", "sees", "(I)Z"⟩, 13), (⟨"LampRanksModel", "isRange", "(I)Z"⟩, 13), (⟨"LampRanksModel", "isPossible", "(I)Z"⟩, 13)]
theorem lw_r3 : ∀ q ∈ lw_privs_3, lw_okq q := List.forall_mem_cons.mpr ⟨lw_p32, List.forall_mem_cons.mpr ⟨lw_p33, List.forall_mem_cons.mpr ⟨lw_p34, List.forall_mem_cons.mpr ⟨lw_p35, List.forall_mem_cons.mpr ⟨lw_p36, List.forall_mem_cons.mpr ⟨lw_p37, List.forall_mem_cons.mpr ⟨lw_p38, List.forall_mem_cons.mpr ⟨lw_p39, List.forall_mem_cons.mpr ⟨lw_p40, List.forall_mem_cons.mpr ⟨lw_p41, List.forall_mem_cons.mpr ⟨lw_p42, List.forall_mem_cons.mpr ⟨lw_p43, List.forall_mem_cons.mpr ⟨lw_p44, List.forall_mem_cons.mpr ⟨lw_p45, List.forall_mem_cons.mpr ⟨lw_p46, List.forall_mem_cons.mpr ⟨lw_p47, fun _ h => absurd h List.not_mem_nil⟩⟩⟩⟩⟩⟩⟩⟩⟩⟩⟩⟩⟩⟩⟩⟩
theorem lw_p48 : lw_okq (⟨"LampRanksModel", "goEvent", "(I)V"⟩, 13) := ⟨⟨by decide +kernel, by decide +kernel⟩, List.mem_of_getElem? (i := 591) (by decide +kernel), List.mem_of_getElem? (i := 872) (by decide +kernel), List.mem_of_getElem? (i := 873) (by decide +kernel)⟩
def lw_privs_4 : List (MethodName × Nat) := [(⟨"LampRanksModel", "goEvent", "(I)V"⟩, 13)]
theorem lw_r4 : ∀ q ∈ lw_privs_4, lw_okq q := List.forall_mem_cons.mpr ⟨lw_p48, fun _ h => absurd h List.not_mem_nil⟩
def lw_privs : List (MethodName × Nat) := lw_privs_1 ++ (lw_privs_2 ++ (lw_privs_3 ++ (lw_privs_4)))
def lw_tbl : List Cond := k2_sels lw_privs ++ tables_1
theorem lw_privs_ok : ∀ q ∈ lw_privs, lw_okq q := by
  show ∀ q ∈ lw_privs_1 ++ (lw_privs_2 ++ (lw_privs_3 ++ (lw_privs_4))), lw_okq q
  exact List.forall_mem_append.mpr ⟨lw_r1, List.forall_mem_append.mpr ⟨lw_r2, List.forall_mem_append.mpr ⟨lw_r3, lw_r4⟩⟩⟩
def RX0 : String := "LampRanks$Board"
def TX0 : u_T := fun k => match k with
  | 0 => ("LampRanks$Board", "nodes", "[LLampRanks$Node;", true)
  | 1 => ("LampRanks$Board", "lines", "[LLampRanks$Line;", true)
  | 2 => ("LampRanks$Board", "nodeCount", "I", false)
  | 3 => ("LampRanks$Board", "lineCount", "I", false)
  | 4 => ("LampRanks$Board", "maskedNodes", "I", false)
  | 5 => ("LampRanks$Board", "time", "I", false)
  | 6 => ("LampRanks$Board", "threshold", "I", false)
  | 7 => ("LampRanks$Board", "late", "I", false)
  | 8 => ("LampRanks$Board", "acknowledges", "I", false)
  | 9 => ("LampRanks$Board", "service", "LLampRanks$Row;", true)
  | 10 => ("LampRanks$Board", "waiting", "LLampRanks$Row;", true)
  | _ => ("LampRanks$Board", "walked", "[I", true)
def tyX0 : Nat → FieldType := fun k => match k with
  | 0 => .array (.object "LampRanks$Node")
  | 1 => .array (.object "LampRanks$Line")
  | 2 => .int
  | 3 => .int
  | 4 => .int
  | 5 => .int
  | 6 => .int
  | 7 => .int
  | 8 => .int
  | 9 => .object "LampRanks$Row"
  | 10 => .object "LampRanks$Row"
  | _ => .array .int
abbrev wsX00 : List Cond := u_ws RX0 TX0 12
theorem nmX0 : ∀ a, a < 12 → ∀ b, b < 12 → a ≠ b → (TX0 a).2.1 ≠ (TX0 b).2.1 := by decide +kernel
theorem tyX0_ok : ∀ k, k < 12 → parseFieldDescriptor (TX0 k).2.2.1 = some (tyX0 k) := by decide +kernel
abbrev cX0_init : ByteArray := prog_2_method_1_code
def yX0_init : MethodName := ⟨RX0, "<init>", "()V"⟩
abbrev cX0_copyFrom : ByteArray := prog_2_method_2_code
def yX0_copyFrom : MethodName := ⟨RX0, "copyFrom", "(LLampRanks$Board;)V"⟩
abbrev cX0_hasNode : ByteArray := prog_2_method_3_code
def yX0_hasNode : MethodName := ⟨RX0, "hasNode", "(I)Z"⟩
abbrev cX0_hasLine : ByteArray := prog_2_method_4_code
def yX0_hasLine : MethodName := ⟨RX0, "hasLine", "(I)Z"⟩
abbrev cX0_addNode : ByteArray := prog_2_method_5_code
def yX0_addNode : MethodName := ⟨RX0, "addNode", "(II)I"⟩
abbrev cX0_addLine : ByteArray := prog_2_method_6_code
def yX0_addLine : MethodName := ⟨RX0, "addLine", "(III)I"⟩
abbrev cX0_setLineMask : ByteArray := prog_2_method_7_code
def yX0_setLineMask : MethodName := ⟨RX0, "setLineMask", "(II)I"⟩
abbrev cX0_setNodeMask : ByteArray := prog_2_method_8_code
def yX0_setNodeMask : MethodName := ⟨RX0, "setNodeMask", "(II)I"⟩
abbrev cX0_setThreshold : ByteArray := prog_2_method_9_code
def yX0_setThreshold : MethodName := ⟨RX0, "setThreshold", "(I)I"⟩
abbrev cX0_setLate : ByteArray := prog_2_method_10_code
def yX0_setLate : MethodName := ⟨RX0, "setLate", "(I)I"⟩
abbrev cX0_giveEdge : ByteArray := prog_2_method_11_code
def yX0_giveEdge : MethodName := ⟨RX0, "giveEdge", "(I)I"⟩
abbrev cX0_setLevel : ByteArray := prog_2_method_12_code
def yX0_setLevel : MethodName := ⟨RX0, "setLevel", "(II)I"⟩
abbrev cX0_takeNext : ByteArray := prog_2_method_13_code
def yX0_takeNext : MethodName := ⟨RX0, "takeNext", "()I"⟩
abbrev cX0_endService : ByteArray := prog_2_method_14_code
def yX0_endService : MethodName := ⟨RX0, "endService", "()I"⟩
abbrev cX0_passTicks : ByteArray := prog_2_method_15_code
def yX0_passTicks : MethodName := ⟨RX0, "passTicks", "(I)I"⟩
abbrev cX0_queueAcknowledge : ByteArray := prog_2_method_16_code
def yX0_queueAcknowledge : MethodName := ⟨RX0, "queueAcknowledge", "(I)V"⟩
abbrev cX0_acknowledgeDue : ByteArray := prog_2_method_17_code
def yX0_acknowledgeDue : MethodName := ⟨RX0, "acknowledgeDue", "()I"⟩
abbrev cX0_turnInputs : ByteArray := prog_2_method_18_code
def yX0_turnInputs : MethodName := ⟨RX0, "turnInputs", "(I)V"⟩
abbrev cX0_nextLine : ByteArray := prog_2_method_19_code
def yX0_nextLine : MethodName := ⟨RX0, "nextLine", "()I"⟩
abbrev cX0_passOver : ByteArray := prog_2_method_20_code
def yX0_passOver : MethodName := ⟨RX0, "passOver", "(I)V"⟩
abbrev cX0_lowestRank : ByteArray := prog_2_method_21_code
def yX0_lowestRank : MethodName := ⟨RX0, "lowestRank", "()I"⟩
abbrev cX0_isReady : ByteArray := prog_2_method_22_code
def yX0_isReady : MethodName := ⟨RX0, "isReady", "(II)Z"⟩
abbrev cX0_isMasked : ByteArray := prog_2_method_23_code
def yX0_isMasked : MethodName := ⟨RX0, "isMasked", "(I)Z"⟩
abbrev cX0_litSet : ByteArray := prog_2_method_24_code
def yX0_litSet : MethodName := ⟨RX0, "litSet", "()I"⟩
abbrev cX0_readySet : ByteArray := prog_2_method_25_code
def yX0_readySet : MethodName := ⟨RX0, "readySet", "()I"⟩
abbrev cX0_stageSet : ByteArray := prog_2_method_26_code
def yX0_stageSet : MethodName := ⟨RX0, "stageSet", "(I)I"⟩
abbrev cX0_ownMaskSet : ByteArray := prog_2_method_27_code
def yX0_ownMaskSet : MethodName := ⟨RX0, "ownMaskSet", "()I"⟩
abbrev cX0_anyMaskSet : ByteArray := prog_2_method_28_code
def yX0_anyMaskSet : MethodName := ⟨RX0, "anyMaskSet", "()I"⟩
abbrev cX0_linesBelow : ByteArray := prog_2_method_29_code
def yX0_linesBelow : MethodName := ⟨RX0, "linesBelow", "(I)I"⟩
abbrev cX0_edgeLineSet : ByteArray := prog_2_method_30_code
def yX0_edgeLineSet : MethodName := ⟨RX0, "edgeLineSet", "()I"⟩
abbrev cX0_tellLine : ByteArray := prog_2_method_31_code
def yX0_tellLine : MethodName := ⟨RX0, "tellLine", "(II)I"⟩
abbrev cX0_tellNode : ByteArray := prog_2_method_32_code
def yX0_tellNode : MethodName := ⟨RX0, "tellNode", "(II)I"⟩
abbrev cX0_tellInput : ByteArray := prog_2_method_33_code
def yX0_tellInput : MethodName := ⟨RX0, "tellInput", "(II)I"⟩
abbrev cX0_tellService : ByteArray := prog_2_method_34_code
def yX0_tellService : MethodName := ⟨RX0, "tellService", "(I)I"⟩
abbrev cX0_tellWaiting : ByteArray := prog_2_method_35_code
def yX0_tellWaiting : MethodName := ⟨RX0, "tellWaiting", "(I)I"⟩
abbrev cX0_tellNumber : ByteArray := prog_2_method_36_code
def yX0_tellNumber : MethodName := ⟨RX0, "tellNumber", "(I)I"⟩
abbrev cX0_allEdges : ByteArray := prog_2_method_37_code
def yX0_allEdges : MethodName := ⟨RX0, "allEdges", "()I"⟩
abbrev cX0_allLost : ByteArray := prog_2_method_38_code
def yX0_allLost : MethodName := ⟨RX0, "allLost", "()I"⟩
abbrev cX0_allTaken : ByteArray := prog_2_method_39_code
def yX0_allTaken : MethodName := ⟨RX0, "allTaken", "(Z)I"⟩
def RX1 : String := "LampRanks$EventText"
def TX1 : u_T := fun k => match k with
  | 0 => ("LampRanks$EventText", "signs", "[C", true)
  | 1 => ("LampRanks$EventText", "length", "I", false)
  | 2 => ("LampRanks$EventText", "start", "I", false)
  | 3 => ("LampRanks$EventText", "end", "I", false)
  | 4 => ("LampRanks$EventText", "first", "I", false)
  | 5 => ("LampRanks$EventText", "second", "I", false)
  | _ => ("LampRanks$EventText", "reason", "I", false)
def tyX1 : Nat → FieldType := fun k => match k with
  | 0 => .array .char
  | 1 => .int
  | 2 => .int
  | 3 => .int
  | 4 => .int
  | 5 => .int
  | _ => .int
abbrev wsX10 : List Cond := u_ws RX1 TX1 7
theorem nmX1 : ∀ a, a < 7 → ∀ b, b < 7 → a ≠ b → (TX1 a).2.1 ≠ (TX1 b).2.1 := by decide +kernel
theorem tyX1_ok : ∀ k, k < 7 → parseFieldDescriptor (TX1 k).2.2.1 = some (tyX1 k) := by decide +kernel
abbrev cX1_init : ByteArray := prog_3_method_1_code
def yX1_init : MethodName := ⟨RX1, "<init>", "()V"⟩
abbrev cX1_append : ByteArray := prog_3_method_2_code
def yX1_append : MethodName := ⟨RX1, "append", "(I)I"⟩
abbrev cX1_makeEmpty : ByteArray := prog_3_method_3_code
def yX1_makeEmpty : MethodName := ⟨RX1, "makeEmpty", "()I"⟩
abbrev cX1_runOn : ByteArray := prog_3_method_4_code
def yX1_runOn : MethodName := ⟨RX1, "runOn", "(LLampRanks$Board;)I"⟩
abbrev cX1_answerOf : ByteArray := prog_3_method_5_code
def yX1_answerOf : MethodName := ⟨RX1, "answerOf", "(LLampRanks$Board;)I"⟩
abbrev cX1_reasonOf : ByteArray := prog_3_method_6_code
def yX1_reasonOf : MethodName := ⟨RX1, "reasonOf", "(I)I"⟩
abbrev cX1_readEvent : ByteArray := prog_3_method_7_code
def yX1_readEvent : MethodName := ⟨RX1, "readEvent", "()Z"⟩
abbrev cX1_readNumber : ByteArray := prog_3_method_8_code
def yX1_readNumber : MethodName := ⟨RX1, "readNumber", "()I"⟩
abbrev cX1_readSign : ByteArray := prog_3_method_9_code
def yX1_readSign : MethodName := ⟨RX1, "readSign", "(C)Z"⟩
abbrev cX1_digitAt : ByteArray := prog_3_method_10_code
def yX1_digitAt : MethodName := ⟨RX1, "digitAt", "(I)I"⟩
abbrev cX1_signAt : ByteArray := prog_3_method_11_code
def yX1_signAt : MethodName := ⟨RX1, "signAt", "(I)C"⟩
def RX2 : String := "LampRanks$History"
def TX2 : u_T := fun k => match k with
  | 0 => ("LampRanks$History", "states", "[LLampRanks$Board;", true)
  | _ => ("LampRanks$History", "size", "I", false)
def tyX2 : Nat → FieldType := fun k => match k with
  | 0 => .array (.object "LampRanks$Board")
  | _ => .int
abbrev wsX20 : List Cond := u_ws RX2 TX2 2
theorem nmX2 : ∀ a, a < 2 → ∀ b, b < 2 → a ≠ b → (TX2 a).2.1 ≠ (TX2 b).2.1 := by decide +kernel
theorem tyX2_ok : ∀ k, k < 2 → parseFieldDescriptor (TX2 k).2.2.1 = some (tyX2 k) := by decide +kernel
abbrev cX2_init : ByteArray := prog_4_method_1_code
def yX2_init : MethodName := ⟨RX2, "<init>", "()V"⟩
abbrev cX2_prepare : ByteArray := prog_4_method_2_code
def yX2_prepare : MethodName := ⟨RX2, "prepare", "(LLampRanks$Board;)V"⟩
abbrev cX2_close : ByteArray := prog_4_method_3_code
def yX2_close : MethodName := ⟨RX2, "close", "(I)I"⟩
abbrev cX2_restore : ByteArray := prog_4_method_4_code
def yX2_restore : MethodName := ⟨RX2, "restore", "(LLampRanks$Board;)I"⟩
abbrev cX2_dropOldest : ByteArray := prog_4_method_5_code
def yX2_dropOldest : MethodName := ⟨RX2, "dropOldest", "()V"⟩
def RX3 : String := "LampRanks$Line"
def TX3 : u_T := fun k => match k with
  | 0 => ("LampRanks$Line", "node", "I", false)
  | 1 => ("LampRanks$Line", "rank", "I", false)
  | 2 => ("LampRanks$Line", "ofLevel", "Z", false)
  | 3 => ("LampRanks$Line", "lit", "Z", false)
  | 4 => ("LampRanks$Line", "masked", "Z", false)
  | 5 => ("LampRanks$Line", "stage", "I", false)
  | 6 => ("LampRanks$Line", "edges", "I", false)
  | 7 => ("LampRanks$Line", "lost", "I", false)
  | 8 => ("LampRanks$Line", "taken", "I", false)
  | 9 => ("LampRanks$Line", "longestWait", "I", false)
  | 10 => ("LampRanks$Line", "litAt", "I", false)
  | _ => ("LampRanks$Line", "dueAt", "I", false)
def tyX3 : Nat → FieldType := fun k => match k with
  | 0 => .int
  | 1 => .int
  | 2 => .boolean
  | 3 => .boolean
  | 4 => .boolean
  | 5 => .int
  | 6 => .int
  | 7 => .int
  | 8 => .int
  | 9 => .int
  | 10 => .int
  | _ => .int
abbrev wsX30 : List Cond := u_ws RX3 TX3 12
theorem nmX3 : ∀ a, a < 12 → ∀ b, b < 12 → a ≠ b → (TX3 a).2.1 ≠ (TX3 b).2.1 := by decide +kernel
theorem tyX3_ok : ∀ k, k < 12 → parseFieldDescriptor (TX3 k).2.2.1 = some (tyX3 k) := by decide +kernel
abbrev cX3_init : ByteArray := prog_5_method_1_code
def yX3_init : MethodName := ⟨RX3, "<init>", "()V"⟩
abbrev cX3_copyFrom : ByteArray := prog_5_method_2_code
def yX3_copyFrom : MethodName := ⟨RX3, "copyFrom", "(LLampRanks$Line;)V"⟩
def RX4 : String := "LampRanks$Node"
def TX4 : u_T := fun k => match k with
  | 0 => ("LampRanks$Node", "inputs", "LLampRanks$Row;", true)
  | 1 => ("LampRanks$Node", "on", "I", false)
  | 2 => ("LampRanks$Node", "turning", "Z", false)
  | _ => ("LampRanks$Node", "way", "I", false)
def tyX4 : Nat → FieldType := fun k => match k with
  | 0 => .object "LampRanks$Row"
  | 1 => .int
  | 2 => .boolean
  | _ => .int
abbrev wsX40 : List Cond := u_ws RX4 TX4 4
theorem nmX4 : ∀ a, a < 4 → ∀ b, b < 4 → a ≠ b → (TX4 a).2.1 ≠ (TX4 b).2.1 := by decide +kernel
theorem tyX4_ok : ∀ k, k < 4 → parseFieldDescriptor (TX4 k).2.2.1 = some (tyX4 k) := by decide +kernel
abbrev cX4_init : ByteArray := prog_6_method_1_code
def yX4_init : MethodName := ⟨RX4, "<init>", "()V"⟩
abbrev cX4_copyFrom : ByteArray := prog_6_method_2_code
def yX4_copyFrom : MethodName := ⟨RX4, "copyFrom", "(LLampRanks$Node;)V"⟩
def RX5 : String := "LampRanks$Row"
def TX5 : u_T := fun k => match k with
  | 0 => ("LampRanks$Row", "cells", "[I", true)
  | _ => ("LampRanks$Row", "size", "I", false)
def tyX5 : Nat → FieldType := fun k => match k with
  | 0 => .array .int
  | _ => .int
abbrev wsX50 : List Cond := u_ws RX5 TX5 2
theorem nmX5 : ∀ a, a < 2 → ∀ b, b < 2 → a ≠ b → (TX5 a).2.1 ≠ (TX5 b).2.1 := by decide +kernel
theorem tyX5_ok : ∀ k, k < 2 → parseFieldDescriptor (TX5 k).2.2.1 = some (tyX5 k) := by decide +kernel
abbrev cX5_init : ByteArray := prog_7_method_1_code
def yX5_init : MethodName := ⟨RX5, "<init>", "()V"⟩
abbrev cX5_get : ByteArray := prog_7_method_2_code
def yX5_get : MethodName := ⟨RX5, "get", "(I)I"⟩
abbrev cX5_insert : ByteArray := prog_7_method_3_code
def yX5_insert : MethodName := ⟨RX5, "insert", "(II)V"⟩
abbrev cX5_remove : ByteArray := prog_7_method_4_code
def yX5_remove : MethodName := ⟨RX5, "remove", "(I)V"⟩
abbrev cX5_moveBehind : ByteArray := prog_7_method_5_code
def yX5_moveBehind : MethodName := ⟨RX5, "moveBehind", "(I)V"⟩
abbrev cX5_copyFrom : ByteArray := prog_7_method_6_code
def yX5_copyFrom : MethodName := ⟨RX5, "copyFrom", "(LLampRanks$Row;)V"⟩
def RX6 : String := "LampRanks"
def TX6 : u_T := fun k => match k with
  | 0 => ("LampRanks", "board", "LLampRanks$Board;", true)
  | 1 => ("LampRanks", "trial", "LLampRanks$Board;", true)
  | 2 => ("LampRanks", "history", "LLampRanks$History;", true)
  | _ => ("LampRanks", "text", "LLampRanks$EventText;", true)
def tyX6 : Nat → FieldType := fun k => match k with
  | 0 => .object "LampRanks$Board"
  | 1 => .object "LampRanks$Board"
  | 2 => .object "LampRanks$History"
  | _ => .object "LampRanks$EventText"
abbrev wsX60 : List Cond := u_ws RX6 TX6 4
theorem nmX6 : ∀ a, a < 4 → ∀ b, b < 4 → a ≠ b → (TX6 a).2.1 ≠ (TX6 b).2.1 := by decide +kernel
theorem tyX6_ok : ∀ k, k < 4 → parseFieldDescriptor (TX6 k).2.2.1 = some (tyX6 k) := by decide +kernel
abbrev cX6_init : ByteArray := prog_1_method_1_code
def yX6_init : MethodName := ⟨RX6, "<init>", "()V"⟩
abbrev cX6_node : ByteArray := prog_1_method_2_code
def yX6_node : MethodName := ⟨RX6, "node", "(II)I"⟩
abbrev cX6_line : ByteArray := prog_1_method_3_code
def yX6_line : MethodName := ⟨RX6, "line", "(III)I"⟩
abbrev cX6_mask : ByteArray := prog_1_method_4_code
def yX6_mask : MethodName := ⟨RX6, "mask", "(II)I"⟩
abbrev cX6_maskNode : ByteArray := prog_1_method_5_code
def yX6_maskNode : MethodName := ⟨RX6, "maskNode", "(II)I"⟩
abbrev cX6_threshold : ByteArray := prog_1_method_6_code
def yX6_threshold : MethodName := ⟨RX6, "threshold", "(I)I"⟩
abbrev cX6_late : ByteArray := prog_1_method_7_code
def yX6_late : MethodName := ⟨RX6, "late", "(I)I"⟩
abbrev cX6_lineOf : ByteArray := prog_1_method_8_code
def yX6_lineOf : MethodName := ⟨RX6, "lineOf", "(II)I"⟩
abbrev cX6_nodeOf : ByteArray := prog_1_method_9_code
def yX6_nodeOf : MethodName := ⟨RX6, "nodeOf", "(II)I"⟩
abbrev cX6_inputAt : ByteArray := prog_1_method_10_code
def yX6_inputAt : MethodName := ⟨RX6, "inputAt", "(II)I"⟩
abbrev cX6_edge : ByteArray := prog_1_method_11_code
def yX6_edge : MethodName := ⟨RX6, "edge", "(I)I"⟩
abbrev cX6_level : ByteArray := prog_1_method_12_code
def yX6_level : MethodName := ⟨RX6, "level", "(II)I"⟩
abbrev cX6_take : ByteArray := prog_1_method_13_code
def yX6_take : MethodName := ⟨RX6, "take", "()I"⟩
abbrev cX6_done : ByteArray := prog_1_method_14_code
def yX6_done : MethodName := ⟨RX6, "done", "()I"⟩
abbrev cX6_tick : ByteArray := prog_1_method_15_code
def yX6_tick : MethodName := ⟨RX6, "tick", "(I)I"⟩
abbrev cX6_next : ByteArray := prog_1_method_16_code
def yX6_next : MethodName := ⟨RX6, "next", "()I"⟩
abbrev cX6_orderAt : ByteArray := prog_1_method_17_code
def yX6_orderAt : MethodName := ⟨RX6, "orderAt", "(I)I"⟩
abbrev cX6_serviceAt : ByteArray := prog_1_method_18_code
def yX6_serviceAt : MethodName := ⟨RX6, "serviceAt", "(I)I"⟩
abbrev cX6_waitingAt : ByteArray := prog_1_method_19_code
def yX6_waitingAt : MethodName := ⟨RX6, "waitingAt", "(I)I"⟩
abbrev cX6_lines : ByteArray := prog_1_method_20_code
def yX6_lines : MethodName := ⟨RX6, "lines", "(I)I"⟩
abbrev cX6_count : ByteArray := prog_1_method_21_code
def yX6_count : MethodName := ⟨RX6, "count", "(I)I"⟩
abbrev cX6_undo : ByteArray := prog_1_method_22_code
def yX6_undo : MethodName := ⟨RX6, "undo", "()I"⟩
abbrev cX6_type : ByteArray := prog_1_method_23_code
def yX6_type : MethodName := ⟨RX6, "type", "(I)I"⟩
abbrev cX6_clearText : ByteArray := prog_1_method_24_code
def yX6_clearText : MethodName := ⟨RX6, "clearText", "()I"⟩
abbrev cX6_fault : ByteArray := prog_1_method_25_code
def yX6_fault : MethodName := ⟨RX6, "fault", "(I)I"⟩
abbrev cX6_play : ByteArray := prog_1_method_26_code
def yX6_play : MethodName := ⟨RX6, "play", "()I"⟩
abbrev cX6_isBit : ByteArray := prog_1_method_27_code
def yX6_isBit : MethodName := ⟨RX6, "isBit", "(I)Z"⟩
abbrev cX6_asBit : ByteArray := prog_1_method_28_code
def yX6_asBit : MethodName := ⟨RX6, "asBit", "(Z)I"⟩
def RX7 : String := "LampRanksModel"
def TX7 : u_T := fun k => match k with
  | 0 => ("LampRanksModel", "s", "[I", true)
  | 1 => ("LampRanksModel", "before", "[I", true)
  | 2 => ("LampRanksModel", "aside", "[I", true)
  | 3 => ("LampRanksModel", "order", "[I", true)
  | 4 => ("LampRanksModel", "stack", "[I", true)
  | 5 => ("LampRanksModel", "place", "[I", true)
  | 6 => ("LampRanksModel", "text", "[I", true)
  | 7 => ("LampRanksModel", "length", "I", false)
  | 8 => ("LampRanksModel", "undoMany", "I", false)
  | 9 => ("LampRanksModel", "at", "I", false)
  | 10 => ("LampRanksModel", "first", "I", false)
  | 11 => ("LampRanksModel", "second", "I", false)
  | _ => ("LampRanksModel", "events", "I", false)
def tyX7 : Nat → FieldType := fun k => match k with
  | 0 => .array .int
  | 1 => .array .int
  | 2 => .array .int
  | 3 => .array .int
  | 4 => .array .int
  | 5 => .array .int
  | 6 => .array .int
  | 7 => .int
  | 8 => .int
  | 9 => .int
  | 10 => .int
  | 11 => .int
  | _ => .int
abbrev wsX70 : List Cond := u_ws RX7 TX7 13
theorem nmX7 : ∀ a, a < 13 → ∀ b, b < 13 → a ≠ b → (TX7 a).2.1 ≠ (TX7 b).2.1 := by decide +kernel
theorem tyX7_ok : ∀ k, k < 13 → parseFieldDescriptor (TX7 k).2.2.1 = some (tyX7 k) := by decide +kernel
abbrev cX7_init : ByteArray := prog_9_method_1_code
def yX7_init : MethodName := ⟨RX7, "<init>", "()V"⟩
abbrev cX7_in : ByteArray := prog_9_method_2_code
def yX7_in : MethodName := ⟨RX7, "in", "(III)Z"⟩
abbrev cX7_record : ByteArray := prog_9_method_3_code
def yX7_record : MethodName := ⟨RX7, "record", "()V"⟩
abbrev cX7_layAside : ByteArray := prog_9_method_4_code
def yX7_layAside : MethodName := ⟨RX7, "layAside", "()V"⟩
abbrev cX7_layBack : ByteArray := prog_9_method_5_code
def yX7_layBack : MethodName := ⟨RX7, "layBack", "()V"⟩
abbrev cX7_n : ByteArray := prog_9_method_6_code
def yX7_n : MethodName := ⟨RX7, "n", "(I)I"⟩
abbrev cX7_l : ByteArray := prog_9_method_7_code
def yX7_l : MethodName := ⟨RX7, "l", "(I)I"⟩
abbrev cX7_isNode : ByteArray := prog_9_method_8_code
def yX7_isNode : MethodName := ⟨RX7, "isNode", "(I)Z"⟩
abbrev cX7_isLine : ByteArray := prog_9_method_9_code
def yX7_isLine : MethodName := ⟨RX7, "isLine", "(I)Z"⟩
abbrev cX7_isBit : ByteArray := prog_9_method_10_code
def yX7_isBit : MethodName := ⟨RX7, "isBit", "(I)Z"⟩
abbrev cX7_hang : ByteArray := prog_9_method_11_code
def yX7_hang : MethodName := ⟨RX7, "hang", "(II)V"⟩
abbrev cX7_node : ByteArray := prog_9_method_12_code
def yX7_node : MethodName := ⟨RX7, "node", "(II)I"⟩
abbrev cX7_line : ByteArray := prog_9_method_13_code
def yX7_line : MethodName := ⟨RX7, "line", "(III)I"⟩
abbrev cX7_isOnWay : ByteArray := prog_9_method_14_code
def yX7_isOnWay : MethodName := ⟨RX7, "isOnWay", "(II)Z"⟩
abbrev cX7_linesBy : ByteArray := prog_9_method_15_code
def yX7_linesBy : MethodName := ⟨RX7, "linesBy", "(I)I"⟩
abbrev cX7_bits : ByteArray := prog_9_method_16_code
def yX7_bits : MethodName := ⟨RX7, "bits", "(I)I"⟩
abbrev cX7_mask : ByteArray := prog_9_method_17_code
def yX7_mask : MethodName := ⟨RX7, "mask", "(II)I"⟩
abbrev cX7_maskNode : ByteArray := prog_9_method_18_code
def yX7_maskNode : MethodName := ⟨RX7, "maskNode", "(II)I"⟩
abbrev cX7_threshold : ByteArray := prog_9_method_19_code
def yX7_threshold : MethodName := ⟨RX7, "threshold", "(I)I"⟩
abbrev cX7_late : ByteArray := prog_9_method_20_code
def yX7_late : MethodName := ⟨RX7, "late", "(I)I"⟩
abbrev cX7_isHidden : ByteArray := prog_9_method_21_code
def yX7_isHidden : MethodName := ⟨RX7, "isHidden", "(I)Z"⟩
abbrev cX7_isReady : ByteArray := prog_9_method_22_code
def yX7_isReady : MethodName := ⟨RX7, "isReady", "(I)Z"⟩
abbrev cX7_layOrder : ByteArray := prog_9_method_23_code
def yX7_layOrder : MethodName := ⟨RX7, "layOrder", "()V"⟩
abbrev cX7_nextLine : ByteArray := prog_9_method_24_code
def yX7_nextLine : MethodName := ⟨RX7, "nextLine", "()I"⟩
abbrev cX7_turnBehind : ByteArray := prog_9_method_25_code
def yX7_turnBehind : MethodName := ⟨RX7, "turnBehind", "(II)V"⟩
abbrev cX7_turnWay : ByteArray := prog_9_method_26_code
def yX7_turnWay : MethodName := ⟨RX7, "turnWay", "(I)V"⟩
abbrev cX7_goTake : ByteArray := prog_9_method_27_code
def yX7_goTake : MethodName := ⟨RX7, "goTake", "(I)V"⟩
abbrev cX7_goDone : ByteArray := prog_9_method_28_code
def yX7_goDone : MethodName := ⟨RX7, "goDone", "()I"⟩
abbrev cX7_litState : ByteArray := prog_9_method_29_code
def yX7_litState : MethodName := ⟨RX7, "litState", "(II)I"⟩
abbrev cX7_lineOf : ByteArray := prog_9_method_30_code
def yX7_lineOf : MethodName := ⟨RX7, "lineOf", "(II)I"⟩
abbrev cX7_nodeOf : ByteArray := prog_9_method_31_code
def yX7_nodeOf : MethodName := ⟨RX7, "nodeOf", "(II)I"⟩
abbrev cX7_inputAt : ByteArray := prog_9_method_32_code
def yX7_inputAt : MethodName := ⟨RX7, "inputAt", "(II)I"⟩
abbrev cX7_goEdge : ByteArray := prog_9_method_33_code
def yX7_goEdge : MethodName := ⟨RX7, "goEdge", "(I)I"⟩
abbrev cX7_edge : ByteArray := prog_9_method_34_code
def yX7_edge : MethodName := ⟨RX7, "edge", "(I)I"⟩
abbrev cX7_canLevel : ByteArray := prog_9_method_35_code
def yX7_canLevel : MethodName := ⟨RX7, "canLevel", "(II)Z"⟩
abbrev cX7_level : ByteArray := prog_9_method_36_code
def yX7_level : MethodName := ⟨RX7, "level", "(II)I"⟩
abbrev cX7_take : ByteArray := prog_9_method_37_code
def yX7_take : MethodName := ⟨RX7, "take", "()I"⟩
abbrev cX7_done : ByteArray := prog_9_method_38_code
def yX7_done : MethodName := ⟨RX7, "done", "()I"⟩
abbrev cX7_goTicks : ByteArray := prog_9_method_39_code
def yX7_goTicks : MethodName := ⟨RX7, "goTicks", "(I)I"⟩
abbrev cX7_tick : ByteArray := prog_9_method_40_code
def yX7_tick : MethodName := ⟨RX7, "tick", "(I)I"⟩
abbrev cX7_next : ByteArray := prog_9_method_41_code
def yX7_next : MethodName := ⟨RX7, "next", "()I"⟩
abbrev cX7_orderAt : ByteArray := prog_9_method_42_code
def yX7_orderAt : MethodName := ⟨RX7, "orderAt", "(I)I"⟩
abbrev cX7_serviceAt : ByteArray := prog_9_method_43_code
def yX7_serviceAt : MethodName := ⟨RX7, "serviceAt", "(I)I"⟩
abbrev cX7_isAhead : ByteArray := prog_9_method_44_code
def yX7_isAhead : MethodName := ⟨RX7, "isAhead", "(II)Z"⟩
abbrev cX7_waitingAt : ByteArray := prog_9_method_45_code
def yX7_waitingAt : MethodName := ⟨RX7, "waitingAt", "(I)I"⟩
abbrev cX7_isOf : ByteArray := prog_9_method_46_code
def yX7_isOf : MethodName := ⟨RX7, "isOf", "(II)Z"⟩
abbrev cX7_linesOf : ByteArray := prog_9_method_47_code
def yX7_linesOf : MethodName := ⟨RX7, "linesOf", "(I)I"⟩
abbrev cX7_lines : ByteArray := prog_9_method_48_code
def yX7_lines : MethodName := ⟨RX7, "lines", "(I)I"⟩
abbrev cX7_litEdges : ByteArray := prog_9_method_49_code
def yX7_litEdges : MethodName := ⟨RX7, "litEdges", "()I"⟩
abbrev cX7_count : ByteArray := prog_9_method_50_code
def yX7_count : MethodName := ⟨RX7, "count", "(I)I"⟩
abbrev cX7_undo : ByteArray := prog_9_method_51_code
def yX7_undo : MethodName := ⟨RX7, "undo", "()I"⟩
abbrev cX7_type : ByteArray := prog_9_method_52_code
def yX7_type : MethodName := ⟨RX7, "type", "(I)I"⟩
abbrev cX7_clearText : ByteArray := prog_9_method_53_code
def yX7_clearText : MethodName := ⟨RX7, "clearText", "()I"⟩
abbrev cX7_sees : ByteArray := prog_9_method_54_code
def yX7_sees : MethodName := ⟨RX7, "sees", "(I)Z"⟩
abbrev cX7_number : ByteArray := prog_9_method_55_code
def yX7_number : MethodName := ⟨RX7, "number", "()I"⟩
abbrev cX7_isForm : ByteArray := prog_9_method_56_code
def yX7_isForm : MethodName := ⟨RX7, "isForm", "(I)Z"⟩
abbrev cX7_isRange : ByteArray := prog_9_method_57_code
def yX7_isRange : MethodName := ⟨RX7, "isRange", "(I)Z"⟩
abbrev cX7_isPossible : ByteArray := prog_9_method_58_code
def yX7_isPossible : MethodName := ⟨RX7, "isPossible", "(I)Z"⟩
abbrev cX7_goEvent : ByteArray := prog_9_method_59_code
def yX7_goEvent : MethodName := ⟨RX7, "goEvent", "(I)V"⟩
abbrev cX7_isSign : ByteArray := prog_9_method_60_code
def yX7_isSign : MethodName := ⟨RX7, "isSign", "(I)Z"⟩
abbrev cX7_run : ByteArray := prog_9_method_61_code
def yX7_run : MethodName := ⟨RX7, "run", "()I"⟩
abbrev cX7_fault : ByteArray := prog_9_method_62_code
def yX7_fault : MethodName := ⟨RX7, "fault", "(I)I"⟩
abbrev cX7_play : ByteArray := prog_9_method_63_code
def yX7_play : MethodName := ⟨RX7, "play", "()I"⟩
def RJ6 : String := "java/lang/Integer"
def TJ6 : u_T := fun k => match k with
  | _ => ("", "", "", false)
def tyJ6 : Nat → FieldType := fun k => match k with
  | _ => .int
abbrev wsJ60 : List Cond := u_ws RJ6 TJ6 0
theorem nmJ6 : ∀ a, a < 0 → ∀ b, b < 0 → a ≠ b → (TJ6 a).2.1 ≠ (TJ6 b).2.1 := by decide +kernel
theorem tyJ6_ok : ∀ k, k < 0 → parseFieldDescriptor (TJ6 k).2.2.1 = some (tyJ6 k) := by decide +kernel
abbrev cJ6_bitCount_0f7a4 : ByteArray := prog_10_method_49_code
def yJ6_bitCount_0f7a4 : MethodName := ⟨RJ6, "bitCount", "(I)I"⟩
def RJ9 : String := "java/lang/Math"
def TJ9 : u_T := fun k => match k with
  | _ => ("", "", "", false)
def tyJ9 : Nat → FieldType := fun k => match k with
  | _ => .int
abbrev wsJ90 : List Cond := u_ws RJ9 TJ9 0
theorem nmJ9 : ∀ a, a < 0 → ∀ b, b < 0 → a ≠ b → (TJ9 a).2.1 ≠ (TJ9 b).2.1 := by decide +kernel
theorem tyJ9_ok : ∀ k, k < 0 → parseFieldDescriptor (TJ9 k).2.2.1 = some (tyJ9 k) := by decide +kernel
abbrev cJ9_max_7cf53 : ByteArray := prog_11_method_65_code
def yJ9_max_7cf53 : MethodName := ⟨RJ9, "max", "(II)I"⟩
def RJ10 : String := "java/lang/System"
def TJ10 : u_T := fun k => match k with
  | _ => ("", "", "", false)
def tyJ10 : Nat → FieldType := fun k => match k with
  | _ => .int
abbrev wsJ100 : List Cond := u_ws RJ10 TJ10 0
theorem nmJ10 : ∀ a, a < 0 → ∀ b, b < 0 → a ≠ b → (TJ10 a).2.1 ≠ (TJ10 b).2.1 := by decide +kernel
theorem tyJ10_ok : ∀ k, k < 0 → parseFieldDescriptor (TJ10 k).2.2.1 = some (tyJ10 k) := by decide +kernel
def RL : String := "LampRanksLaw"
abbrev cL_law : ByteArray := code
def yL_law : MethodName := ⟨RL, "law", "([I)Z"⟩
abbrev vwCl : List vw_C := [(RX0, TX0, 12), (RX1, TX1, 7), (RX2, TX2, 2), (RX3, TX3, 12), (RX4, TX4, 4), (RX5, TX5, 2), (RX6, TX6, 4), (RX7, TX7, 13)]
end
section
/-! THE WORLD AS ONE MEMORY: kinds of addresses (sh), whole numbers (I), references (P); one judgement PW for the walk of a body, one PM for a contract -/
def pw_T : List Cond := lw_tbl.filter goodWord
def pw_isN (w : Cond) : Bool := match w with
  | .fieldLinkNest _ _ _ _ _ _ => true
  | .methodLinkNest _ _ _ _ => true
  | _ => false
def pw_N : List Cond := lw_tbl.filter pw_isN
theorem pw_good {a b : Cond} (hb : b ∈ pw_T) : GoodIn (a :: pw_T) (b :: pw_T) := by
  intro w hw
  have hm : w ∈ pw_T := by
    rcases List.mem_cons.mp hw with rfl | h
    · exact hb
    · exact h
  exact ⟨List.mem_cons_of_mem _ hm, good_of_word (List.mem_filter.mp hm).2⟩
theorem pw_goodT {b : Cond} (hb : b ∈ pw_T) : GoodIn pw_T (b :: pw_T) := by
  intro w hw
  have hm : w ∈ pw_T := by
    rcases List.mem_cons.mp hw with rfl | h
    · exact hb
    · exact h
  exact ⟨hm, good_of_word (List.mem_filter.mp hm).2⟩
abbrev pm_I : Type := MethodName × ByteArray × Nat × Option FieldType
abbrev pw_Sh : Type := Nat → Nat × Nat
abbrev pw_P : Type := Nat → Nat → Option Nat
abbrev pw_I : Type := Nat → Nat → Int32
abbrev pw_X : Type := Option (Nat × Nat × (Nat → Int32))
abbrev pw_g : Type := pm_I × Nat × Nat × Nat × pw_X × Nat
abbrev pw_Q : Type := Option Value → Nat → pw_Sh → pw_P → pw_I → Prop
/-- fields of references, by class and slot -/
def pw_rf : Nat → Nat → Bool
  | 0, 0 => true
  | 0, 1 => true
  | 0, 9 => true
  | 0, 10 => true
  | 0, 11 => true
  | 1, 0 => true
  | 2, 0 => true
  | 4, 0 => true
  | 5, 0 => true
  | 6, _ => true
  | 7, 0 => true
  | 7, 1 => true
  | 7, 2 => true
  | 7, 3 => true
  | 7, 4 => true
  | 7, 5 => true
  | 7, 6 => true
  | _, _ => false
def pw_nf : Nat → Nat
  | 0 => 12
  | 1 => 7
  | 2 => 2
  | 3 => 12
  | 4 => 4
  | 5 => 2
  | 6 => 4
  | _ => 13
def pw_R : Nat → String
  | 0 => RX0
  | 1 => RX1
  | 2 => RX2
  | 3 => RX3
  | 4 => RX4
  | 5 => RX5
  | 6 => RX6
  | _ => RX7
def pw_tb : Nat → u_T
  | 0 => TX0
  | 1 => TX1
  | 2 => TX2
  | 3 => TX3
  | 4 => TX4
  | 5 => TX5
  | 6 => TX6
  | _ => TX7
def pw_ty : Nat → Nat → FieldType
  | 0 => tyX0
  | 1 => tyX1
  | 2 => tyX2
  | 3 => tyX3
  | 4 => tyX4
  | 5 => tyX5
  | 6 => tyX6
  | _ => tyX7
/-- what each of the eight classes gives -/
def pw_clok (ci : Nat) : Prop := vwCl[ci]? = some (pw_R ci, pw_tb ci, pw_nf ci) ∧ (∀ w ∈ u_ws (pw_R ci) (pw_tb ci) (pw_nf ci), w ∈ pw_T) ∧
  (∀ k, k < pw_nf ci → parseFieldDescriptor (pw_tb ci k).2.2.1 = some (pw_ty ci k)) ∧
  (∀ a, a < pw_nf ci → ∀ b, b < pw_nf ci → a ≠ b → (pw_tb ci a).2.1 ≠ (pw_tb ci b).2.1)
def pw_val (ci : Nat) (P : pw_P) (I : pw_I) (a k : Nat) : Value := bif pw_rf ci k then va_rf (P a k) else .int (I a k)
def pw_cell (D : va_G) (dA : Nat → ClassId) (sh : pw_Sh) (P : pw_P) (I : pw_I) (H : Heap) (a : Nat) : Prop :=
  ((sh a).1 < 8 → t_OB a (D.1 (sh a).1) (pw_nf (sh a).1) (D.2 (sh a).1) H (pw_val (sh a).1 P I a)) ∧
  ((sh a).1 = 8 ∨ (sh a).1 = 9 → H[a]? = some (arrV (dA (sh a).1) (sh a).2 (fun j => .int (I a j)))) ∧
  (10 ≤ (sh a).1 ∧ (sh a).1 ≤ 12 → H[a]? = some (arrV (dA (sh a).1) (sh a).2 (fun j => va_rf (P a j))))
def pw_Wd (D : va_G) (dA : Nat → ClassId) (base n : Nat) (sh : pw_Sh) (P : pw_P) (I : pw_I) (H : Heap) : Prop :=
  H.size = base + n ∧ ∀ a, (sh a).1 ≤ 12 → (base ≤ a ∧ a < base + n) ∧ pw_cell D dA sh P I H a
def pw_tys (dA : Nat → ClassId) : List (ClassId × FieldType) := [(dA 8, .int), (dA 9, .char), (dA 10, .object RX4), (dA 11, .object RX3), (dA 12, .object RX0)]
def pw_K (D : va_G) (dA : Nat → ClassId) (U : State) : Prop := va_K D vwCl (pw_tys dA) U ∧ (∀ w ∈ pw_N, va_Nw w U) ∧ va_AO RX4 U ∧ va_AO RX3 U ∧ va_AO RX0 U
theorem pw_K.warm {D : va_G} {dA : Nat → ClassId} {s U : State} (hW : s.WarmedH U.vm) (h : pw_K D dA s) : pw_K D dA U := by
  obtain ⟨h1, h2, h3, h4, h5⟩ := h
  refine ⟨h1.moved hW.alike, fun w hw => ?_, h3.moved hW.alike, h4.moved hW.alike, h5.moved hW.alike⟩
  have hq := (List.mem_filter.mp hw).2
  have hz := h2 w hw
  cases w with
  | fieldLinkNest a b c d e f => exact va_Nw.warmF hW hz
  | methodLinkNest a b c d => exact va_Nw.warmM hW hz
  | _ => cases hq
theorem pw_K.same {D : va_G} {dA : Nat → ClassId} {u U : State} (hv : u.vm = U.vm) (h : pw_K D dA u) : pw_K D dA U := by
  obtain ⟨h1, h2, h3, h4, h5⟩ := h
  have hA : u.vm.Alike U.vm := by rw [hv]; exact Vm.Alike.refl _
  refine ⟨h1.moved hA, fun w hw => ?_, h3.moved hA, h4.moved hA, h5.moved hA⟩
  have hq := (List.mem_filter.mp hw).2
  have hz := h2 w hw
  cases w with
  | fieldLinkNest a b c d e f => exact va_Nw.same rfl hv hz
  | methodLinkNest a b c d => exact va_Nw.same rfl hv hz
  | _ => cases hq
/-- locals: a list of as many as the method has -/
def pl_has (ls : Array Slot) (n : Nat) (L : List (Option Value)) : Prop := ls.size = n ∧ L.length = n ∧ lv_wf ls ∧ ∀ (i : Nat) (v : Value), L[i]? = some (some v) → ls[i]? = some (.val v) ∧ v.category = 1
def pl_lv (L : List (Option Value)) : List (Nat × Value) := (List.range L.length).filterMap (fun i => (L[i]?.join).map (fun v => (i, v)))
theorem pl_mem {L : List (Option Value)} {i : Nat} {v : Value} : (i, v) ∈ pl_lv L ↔ L[i]? = some (some v) := by
  unfold pl_lv
  rw [List.mem_filterMap]
  constructor
  · rintro ⟨j, hj, h⟩
    rw [Option.map_eq_some_iff] at h
    obtain ⟨w, h1, h2⟩ := h
    cases h2
    rw [Option.join_eq_some_iff] at h1
    exact h1
  · intro h
    have hi : i < L.length := (List.getElem?_eq_some_iff.mp h).1
    exact ⟨i, List.mem_range.mpr hi, by rw [h]; rfl⟩
theorem pl_has.lv {ls : Array Slot} {n : Nat} {L : List (Option Value)} (h : pl_has ls n L) : lv_has ls n (pl_lv L) :=
  ⟨h.1, h.2.2.1, fun q hq => (h.2.2.2 q.1 q.2 (pl_mem.mp hq)).1⟩
theorem pl_has.st {ls ls' : Array Slot} {n i : Nat} {L : List (Option Value)} {v : Value} (h : pl_has ls n L) (hc : v.category = 1)
    (h' : lv_has ls' n ((i, v) :: (pl_lv L).filter (fun q => !(q.1 == i) && !(q.1 + 1 == i && q.2.category == 2)))) : pl_has ls' n (L.set i (some v)) := by
  refine ⟨h'.1, by rw [List.length_set]; exact h.2.1, h'.2.1, fun j w hj => ?_⟩
  by_cases e : i = j
  · subst e
    have hi : i < L.length := by
      have := (List.getElem?_eq_some_iff.mp hj).1
      rwa [List.length_set] at this
    rw [List.getElem?_set_self hi] at hj
    cases hj
    exact ⟨h'.2.2 (i, v) List.mem_cons_self, hc⟩
  · rw [List.getElem?_set_ne e] at hj
    have hw := h.2.2.2 j w hj
    refine ⟨h'.2.2 (j, w) (List.mem_cons_of_mem _ (List.mem_filter.mpr ⟨pl_mem.mpr hj, ?_⟩)), hw.2⟩
    have e1 : (j == i) = false := by simpa using fun q : j = i => e q.symm
    have e2 : (w.category == 2) = false := by rw [hw.2]; rfl
    simp [e1, e2]
def pw_ctx (p : Program) (s : State) (m : MethodId) (args : Array Value) (meth : Method) (c : Code) (R : Room) (g : pw_g) (D : va_G) (dA : Nat → ClassId) : Prop :=
  p.tables.exec = Jvm.exec ∧ c.code = g.1.2.1 ∧ meth.sig.returnType = g.1.2.2.2 ∧ c.maxLocals = g.1.2.2.1 ∧ s.vm.findClass g.1.1.cls = some m.cls ∧ (∀ w ∈ pw_T, w.before args s = true) ∧ meth.locks = false ∧ pw_K D dA s ∧
  (g.1.1.name = "<init>" → meth.name = "<init>") ∧ (g.2.1 ≤ R.frames ∧ 30 * g.2.1 ≤ R.locals ∧ g.2.2.1 ≤ R.cells ∧ g.2.2.2.1 ≤ R.slots) ∧ g.2.2.2.2.2 ≤ s.heap.size ∧
  (∀ q, g.2.2.2.2.1 = some q → va_X q.1 q.2.1 q.2.2 s s.heap ∧ q.1 < g.2.2.2.2.2)
/-- the end of a body: an answer of the method's type, at an instruction that gives it -/
def pw_nok (ty : Option FieldType) (x : Int32) : Prop := match ty with
  | some .int => True
  | some .boolean => x = 0 ∨ x = 1
  | some .char => ∃ n : Nat, n < 65536 ∧ x = nI n
  | _ => False
theorem pw_nok_narrow {rt : Option FieldType} {x : Int32} (h : pw_nok rt x) : ∃ ty, rt = some ty ∧ narrow ty (.int x) = .int x := by
  unfold pw_nok at h
  split at h
  · exact ⟨_, rfl, rfl⟩
  · rcases h with rfl | rfl
    · exact ⟨_, rfl, rfl⟩
    · exact ⟨_, rfl, rfl⟩
  · obtain ⟨n, hn, rfl⟩ := h
    exact ⟨_, rfl, (pk_charN hn).1⟩
  · exact h.elim
def pw_ret (y : pm_I) (v : Option Value) (pc : Nat) : Prop := match v with
  | none => decode y.2.1 pc = .ok (.return_, 1) ∧ y.2.2.2 = none
  | some v => decode y.2.1 pc = .ok (.ireturn, 1) ∧ ∃ x : Int32, v = .int x ∧ pw_nok y.2.2.2 x
def PW (g : pw_g) (n : Nat) (sh : pw_Sh) (P : pw_P) (I : pw_I) (uc us pc : Nat) (L : List (Option Value)) (st : List Value) (Q : pw_Q) : Prop :=
  ∀ (p : Program) (l : Launch) (e : Env) (R : Room) (s : State) (m : MethodId) (args : Array Value) (below : List Frame) (meth : Method) (c : Code) (H : Heap) (locs : List Loc) (cells slots : Nat) (D : va_G) (dA : Nat → ClassId) (ls : Array Slot) (Qf : State → Prop),
    pw_ctx p s m args meth c R g D dA → pw_Wd D dA g.2.2.2.2.2 n sh P I H → va_S (fun q => g.2.2.2.2.2 ≤ q) s.heap H locs → pl_has ls g.1.2.2.1 L → cells ≤ uc → slots ≤ us →
    (∀ (v : Option Value) (n' : Nat) (sh' : pw_Sh) (P' : pw_P) (I' : pw_I) (pc' : Nat) (ls' : Array Slot) (H' : Heap) (locs' : List Loc) (cells' slots' : Nat), Q v n' sh' P' I' → pw_Wd D dA g.2.2.2.2.2 n' sh' P' I' H' → va_S (fun q => g.2.2.2.2.2 ≤ q) s.heap H' locs' →
      cells' ≤ g.2.2.1 → slots' ≤ g.2.2.2.1 → pw_ret g.1 v pc' → W p l e R s m args below meth c H' locs' cells' slots' Qf (F0 m pc' ls' v.toList)) →
    W p l e R s m args below meth c H locs cells slots Qf (F0 m pc ls st)
def pm_Pc (base n : Nat) (Ag : List Value) (sh : pw_Sh) (P : pw_P) (I : pw_I) (D : va_G) (dA : Nat → ClassId) : Array Value → State → Prop := va_Pc Ag (fun U => pw_Wd D dA base n sh P I U.heap ∧ pw_K D dA U)
def pm_Qc (base : Nat) (Q : pw_Q) (D : va_G) (dA : Nat → ClassId) : Array Value → State → Outcome → State → Prop := fun _ st oc t =>
  (∃ (v : Option Value) (n' : Nat) (sh' : pw_Sh) (P' : pw_P) (I' : pw_I), oc = .returned v ∧ Q v n' sh' P' I' ∧ pw_Wd D dA base n' sh' P' I' t.heap ∧ (v = none ∨ ∃ x : Int32, v = some (.int x))) ∧ va_F (fun q => base ≤ q) st t
def pm_ws (y : pm_I) : List Cond := Cond.code y.1 y.2.1 y.2.2.1 y.2.2.2 :: pw_T
def pm_R (d mc ms : Nat) : Room := { frames := d, cells := mc, slots := ms, locals := 30 * d }
/-- the contract of a method: room for d more frames, mc cells, ms slots -/
def PM (y : pm_I) (d mc ms base : Nat) (Ag : List Value) (n : Nat) (sh : pw_Sh) (P : pw_P) (I : pw_I) (Q : pw_Q) : Prop :=
  ∀ (l : Launch) (D : va_G) (dA : Nat → ClassId), Met l y.1 (pm_ws y) (pm_R d mc ms) (pm_Pc base n Ag sh P I D dA) (pm_Qc base Q D dA) mc ms (fun q => base ≤ q)
theorem pl_args : ∀ (vs : List Value) (k : Nat), (∀ v ∈ vs, v.category = 1) → ∀ (i : Nat) (v : Value), vs[i]? = some v → (k + i, v) ∈ lv_args k vs
  | [], _, _, i, v, h => by simp at h
  | w :: vs, k, hc, i, v, h => by
    have hw : ¬ w.category = 2 := by rw [hc w List.mem_cons_self]; decide
    unfold lv_args
    rw [if_neg hw]
    cases i with
    | zero =>
      rw [List.getElem?_cons_zero] at h
      cases h
      exact List.mem_cons_self
    | succ i =>
      rw [List.getElem?_cons_succ] at h
      have := pl_args vs (k + 1) (fun v hv => hc v (List.mem_cons_of_mem _ hv)) i v h
      refine List.mem_cons_of_mem _ ?_
      rw [show k + (i + 1) = k + 1 + i by omega]
      exact this
theorem pl_sl : ∀ (vs : List Value), (∀ v ∈ vs, v.category = 1) → (lg_sl vs).length = vs.length
  | [], _ => rfl
  | w :: vs, hc => by
    have hw : ¬ w.category = 2 := by rw [hc w List.mem_cons_self]; decide
    have := pl_sl vs (fun v hv => hc v (List.mem_cons_of_mem _ hv))
    unfold lg_sl at this ⊢
    rw [List.flatMap_cons, if_neg hw, List.length_append, this]
    simp
    omega
/-- the locals at a method's entry -/
def pl_in (Ag : List Value) (n : Nat) : List (Option Value) := Ag.map some ++ List.replicate (n - Ag.length) none
theorem pl_entry {vs : List Value} {n : Nat} (hc : ∀ v ∈ vs, v.category = 1) (hn : vs.length ≤ n) : pl_has ((lg_sl vs ++ List.replicate (n - (lg_sl vs).length) Slot.unset).toArray) n (pl_in vs n) := by
  have h := lv_entry vs (n := n) (by rw [pl_sl vs hc]; exact hn)
  refine ⟨h.1, by simp [pl_in]; omega, h.2.1, fun i v hi => ?_⟩
  have hi2 : vs[i]? = some v := by
    unfold pl_in at hi
    by_cases hl : i < vs.length
    · rw [List.getElem?_append_left (by simpa using hl), List.getElem?_map] at hi
      cases hq : vs[i]? with
      | none => rw [hq] at hi; simp at hi
      | some w => rw [hq] at hi; simp at hi; rw [hi]
    · rw [List.getElem?_append_right (by simp; omega), List.getElem?_replicate] at hi
      split at hi <;> cases hi
  have hm := pl_args vs 0 hc i v hi2
  rw [Nat.zero_add] at hm
  exact ⟨h.2.2 (i, v) hm, hc v (List.mem_of_getElem? hi2)⟩
theorem PM.of_PW {y : pm_I} {d mc ms base n : Nat} {Ag : List Value} {sh : pw_Sh} {P : pw_P} {I : pw_I} {Q : pw_Q} (hy : plainName y.1.cls = true) (hc : ∀ v ∈ Ag, v.category = 1) (hn : Ag.length ≤ y.2.2.1)
    (h : PW (y, d, mc, ms, none, base) n sh P I 0 0 0 (pl_in Ag y.2.2.1) [] Q) : PM y d mc ms base Ag n sh P I Q := by
  intro l D dA
  refine Met.ofW (cc := y.2.1) (maxL := y.2.2.1) (ret := y.2.2.2) hy rfl ?_
  intro p e s m args below meth c s₁ B hml hv
  obtain ⟨rfl, hWd, hK⟩ := hv
  have hts := atoms_spec (ws := pm_ws y) B.pre
  have hname : meth.name = y.1.name := (name_of_methodNamed B.named B.method).1
  rw [lg_entry_eq]
  refine h p l e _ s m _ below meth c s.heap [] 0 0 D dA _ _ ⟨B.exec, B.bytes, B.returns, hml, findClass_of_methodNamed B.named, fun w hw => hts w (List.mem_cons_of_mem _ hw), B.notSynchronized, hK, fun e => hname.trans e, ⟨Nat.le_refl _, Nat.le_refl _, Nat.le_refl _, Nat.le_refl _⟩, ?_, fun q hq => by cases hq⟩ hWd va_S.rf (pl_entry hc hn) (Nat.le_refl _) (Nat.le_refl _) ?_
  · rw [hWd.1]
    exact Nat.le_add_right _ _
  · intro v n' sh' P' I' pc' ls' H' locs' cells' slots' hQ hW' hS' hc' hs' hret
    refine W.widen hc' hs' ?_
    have hlocks := B.notSynchronized
    cases v with
    | none =>
      obtain ⟨hd, hr⟩ := hret
      exact W.vret B.exec B.bytes (B.returns.trans hr) (fun t ht hW => ⟨⟨none, n', sh', P', I', rfl, hQ, by rw [ht]; exact hW', Or.inl rfl⟩, hS'.F ht⟩) hS'.2.2 hd hlocks
    | some v =>
      obtain ⟨hd, x, rfl, hx⟩ := hret
      obtain ⟨ty, ht1, ht2⟩ := pw_nok_narrow hx
      exact W.zret B.exec B.bytes (B.returns.trans ht1) ht2 (fun t ht hW => ⟨⟨some (.int x), n', sh', P', I', rfl, hQ, by rw [ht]; exact hW', Or.inr ⟨x, rfl⟩⟩, hS'.F ht⟩) hS'.2.2 hd hlocks
theorem pm_blind {base n : Nat} {Ag : List Value} {sh : pw_Sh} {P : pw_P} {I : pw_I} {D : va_G} {dA : Nat → ClassId} : FrameBlind (pm_Pc base n Ag sh P I D dA) := by
  intro a U g mk q
  obtain ⟨h1, h2, h3⟩ := q
  exact ⟨h1, h2, pw_K.same (u := U) (U := U.calling g mk a) rfl h3⟩
end
section
/-! reads and writes of the memory, one instruction each -/
def pw_up (I : pw_I) (a k : Nat) (v : Int32) : pw_I := fun a' k' => if a' = a ∧ k' = k then v else I a' k'
def pw_upP (P : pw_P) (a k : Nat) (v : Option Nat) : pw_P := fun a' k' => if a' = a ∧ k' = k then v else P a' k'
theorem pw_up_s {I : pw_I} {a k : Nat} {v : Int32} : pw_up I a k v a k = v := by simp [pw_up]
theorem pw_up_k {I : pw_I} {a a' k k' : Nat} {v : Int32} (h : k' ≠ k) : pw_up I a k v a' k' = I a' k' := by simp [pw_up, h]
theorem pw_up_a {I : pw_I} {a a' k k' : Nat} {v : Int32} (h : a' ≠ a) : pw_up I a k v a' k' = I a' k' := by simp [pw_up, h]
theorem pw_upP_s {P : pw_P} {a k : Nat} {v : Option Nat} : pw_upP P a k v a k = v := by simp [pw_upP]
theorem pw_upP_k {P : pw_P} {a a' k k' : Nat} {v : Option Nat} (h : k' ≠ k) : pw_upP P a k v a' k' = P a' k' := by simp [pw_upP, h]
theorem pw_upP_a {P : pw_P} {a a' k k' : Nat} {v : Option Nat} (h : a' ≠ a) : pw_upP P a k v a' k' = P a' k' := by simp [pw_upP, h]
theorem pw_val_cong {ci : Nat} {P P' : pw_P} {I I' : pw_I} {a : Nat} (hP : ∀ k, P' a k = P a k) (hI : ∀ k, I' a k = I a k) : pw_val ci P' I' a = pw_val ci P I a := by
  funext k
  unfold pw_val
  rw [hP, hI]
theorem pw_cell.kept {D : va_G} {dA : Nat → ClassId} {sh : pw_Sh} {P P' : pw_P} {I I' : pw_I} {H H' : Heap} {a : Nat} (h : pw_cell D dA sh P I H a) (hH : H'[a]? = H[a]?) (hP : ∀ k, P' a k = P a k) (hI : ∀ k, I' a k = I a k) : pw_cell D dA sh P' I' H' a := by
  have e1 : (fun j => Value.int (I' a j)) = (fun j => Value.int (I a j)) := by funext j; rw [hI]
  have e2 : (fun j => va_rf (P' a j)) = (fun j => va_rf (P a j)) := by funext j; rw [hP]
  unfold pw_cell at h ⊢
  rw [pw_val_cong hP hI, e1, e2, hH]
  exact ⟨fun hc => (h.1 hc).kept hH, h.2⟩
theorem pw_Wd.put {D : va_G} {dA : Nat → ClassId} {base n : Nat} {sh : pw_Sh} {P P' : pw_P} {I I' : pw_I} {H H' : Heap} {a : Nat} (h : pw_Wd D dA base n sh P I H) (z : H'.size = H.size) (oq : ∀ q, q ≠ a → H'[q]? = H[q]?)
    (hP : ∀ q, q ≠ a → ∀ k, P' q k = P q k) (hI : ∀ q, q ≠ a → ∀ k, I' q k = I q k) (hc : pw_cell D dA sh P' I' H' a) : pw_Wd D dA base n sh P' I' H' := by
  refine ⟨by rw [z]; exact h.1, fun q hq => ⟨(h.2 q hq).1, ?_⟩⟩
  by_cases e : q = a
  · rw [e]; exact hc
  · exact (h.2 q hq).2.kept (oq q e) (hP q e) (hI q e)
section PWH
variable {p : Program} {l : Launch} {e : Env} {R : Room} {s : State} {m : MethodId} {args : Array Value} {below : List Frame} {meth : Method} {c : Code} {H : Heap} {locs : List Loc} {cells slots : Nat} {Q : State → Prop}
variable {g : pw_g} {D : va_G} {dA : Nat → ClassId} {base n : Nat} {sh : pw_Sh} {P : pw_P} {I : pw_I} {pc : Nat} {ls : Array Slot} {rest : List Value} {cc : ByteArray}
/-- a field's link in the tables -/
def pw_fl (own : String) (idx ci k : Nat) : Prop := Cond.fieldLink own idx (pw_tb ci k).1 (pw_tb ci k).2.1 (pw_tb ci k).2.2.1 ∈ pw_T ∨ ∃ host, Cond.fieldLinkNest own idx (pw_tb ci k).1 (pw_tb ci k).2.1 (pw_tb ci k).2.2.1 host ∈ pw_N
theorem pw_getf (C : pw_ctx p s m args meth c R g D dA) (hW : pw_Wd D dA base n sh P I H) {a ci k idx : Nat} (hci : ci < 8) (hcl : pw_clok ci) (hk : k < pw_nf ci) (hsh : (sh a).1 = ci) (hfl : pw_fl g.1.1.cls idx ci k) (hdg : decode g.1.2.1 pc = .ok (.getfield idx, 3))
    (kk : W p l e R s m args below meth c H locs cells slots Q (F0 m (pc + 3) ls (pw_val ci P I a k :: rest))) : W p l e R s m args below meth c H locs cells slots Q (F0 m pc ls (.ref a :: rest)) := by
  obtain ⟨hx, hb, -, -, hown, hts, -, ⟨hK, hN, -⟩, -⟩ := C
  have hcell := (hW.2 a (by omega)).2.1 (by omega)
  rw [hsh] at hcell
  obtain ⟨cell, q1, q2, q3, q4⟩ := hcell
  obtain ⟨hcl1, hcl2, hcl3, hcl4⟩ := hcl
  obtain ⟨hS, hfc, kC, hkC, hkind⟩ := hK.1 ci _ hcl1
  obtain ⟨cf, kf, fi, f, hi, hsl⟩ := hS k hk
  have hst := (u_facts hfc hkC (u_lays hts hcl2 hk) hi).1
  rcases hfl with hfl | ⟨host, hfl⟩
  · exact W.getf hx hb hown (hts _ hfl) hi hst q1 (by rw [q3]; exact fun h => by cases h) (by rw [hsl, q4 k hk]) rfl rfl hdg kk
  · exact va_Wgetf hx hb hown (va_Nw.use rfl (hN _ hfl)) hi hst q1 (by rw [q3]; exact fun h => by cases h) (by rw [hsl, q4 k hk]) rfl rfl hdg kk
/-- a field is written: a whole number (v) or a reference (r) -/
theorem pw_putf (C : pw_ctx p s m args meth c R g D dA) (hW : pw_Wd D dA base n sh P I H) {A : Nat → Prop} (hS0 : va_S A s.heap H locs) {a ci k idx : Nat} {v : Value} {P' : pw_P} {I' : pw_I} (hA : A a) (hci : ci < 8) (hcl : pw_clok ci) (hk : k < pw_nf ci) (hsh : (sh a).1 = ci) (hfl : pw_fl g.1.1.cls idx ci k)
    (hfin : (pw_tb ci k).2.2.2 = false ∨ ((pw_tb ci k).2.2.2 = true ∧ meth.name = "<init>" ∧ (pw_tb ci k).1 = g.1.1.cls ∧ Cond.fieldLink g.1.1.cls idx (pw_tb ci k).1 (pw_tb ci k).2.1 (pw_tb ci k).2.2.1 ∈ pw_T)) (hn : narrow (pw_ty ci k) v = v) (hfit : fits (pw_ty ci k) v = true)
    (hP : ∀ q, q ≠ a → ∀ k, P' q k = P q k) (hI : ∀ q, q ≠ a → ∀ k, I' q k = I q k) (hnew : ∀ j, j < pw_nf ci → pw_val ci P' I' a j = if j = k then v else pw_val ci P I a j)
    (hdg : decode g.1.2.1 pc = .ok (.putfield idx, 3))
    (kk : ∀ (H1 : Heap) (locs1 : List Loc), pw_Wd D dA base n sh P' I' H1 → va_S A s.heap H1 locs1 → W p l e R s m args below meth c H1 locs1 cells slots Q (F0 m (pc + 3) ls rest)) : W p l e R s m args below meth c H locs cells slots Q (F0 m pc ls (v :: .ref a :: rest)) := by
  obtain ⟨hx, hb, -, -, hown, hts, -, ⟨hK, hN, -⟩, -⟩ := C
  have hcell := (hW.2 a (by omega)).2.1 (by omega)
  rw [hsh] at hcell
  obtain ⟨cell, q1, q2, q3, q4⟩ := hcell
  obtain ⟨hcl1, hcl2, hcl3, hcl4⟩ := hcl
  have hap := va_apart (own := g.1.1.cls) hts hcl2 (pw_ty ci) hcl3 hcl4 hK hcl1
  obtain ⟨hS, hfc, kC, hkC, hkind⟩ := hK.1 ci _ hcl1
  obtain ⟨cf, kf, fi, f, hi, hsl⟩ := hS k hk
  have hst := (u_facts hfc hkC (u_lays hts hcl2 hk) hi).1
  have hend : ∀ H1 : Heap, H1[a]? = some (cell.setSlot f.slot v) → H1.size = H.size → (∀ q, q ≠ a → H1[q]? = H[q]?) → W p l e R s m args below meth c H1 (locs ++ [⟨a, f.slot⟩]) cells slots Q (F0 m (pc + 3) ls rest) := by
    intro H1 e1 e2 e3
    refine kk H1 _ (hW.put e2 e3 hP hI ⟨fun _ => ?_, fun h => absurd h (by omega), fun h => absurd h (by omega)⟩) (hS0.put e2 e3 hA)
    rw [hsh]
    rw [hsl] at e1
    refine t_OB.to (V := updV (pw_val ci P I a) k v) ⟨_, e1, q2, q3, t_set q4 hap hk v⟩ (fun j hj => ?_)
    rw [hnew j hj]
    rfl
  have hlt : f.slot < cell.slots.size := by rw [hsl]; exact k2_hasslot (q4 k hk)
  rcases hfin with hfin | ⟨hfin, hin, hdecl, hflT⟩
  · have hlay := hts _ (hcl2 _ (u_in_lay hk))
    unfold u_lay at hlay
    rw [if_neg (by rw [hfin]; decide)] at hlay
    have h6 := u_store hfc hkC hkind hlay hi (hcl3 k hk) hn hfit
    rcases hfl with hfl | ⟨host, hfl⟩
    · exact W.putK hx hb (f := f) ⟨hown, hts _ hfl, ⟨_, _, _, hi⟩, hst⟩ (by rw [q2]; exact h6) q1 q3 hlt rfl rfl hdg hend
    · exact va_WputK hx hb (f := f) hown (va_Nw.use rfl (hN _ hfl)) hi hst (by rw [q2]; exact h6) q1 q3 hlt rfl rfl hdg hend
  · have h6 := u_fits hfc hkC hkind (u_lays hts hcl2 hk) hi (hcl3 k hk) hn hfit
    have hlay := hts _ (hcl2 _ (u_in_lay hk))
    unfold u_lay at hlay
    rw [if_pos hfin] at hlay
    have hcf : m.cls = cf := by
      obtain ⟨_, _, c', _, _, _, -, -, hf', -, -, -, hown2, -⟩ := Cond.laysFinal_spec hlay
      have e1 : c' = cf := by have := hi.symm.trans hf'; simp at this; exact this.1.symm
      rw [hdecl] at hown2
      rw [← e1]; exact Option.some.inj (hown.symm.trans hown2)
    exact W.putFinK hx hb hown (hts _ hflT) hi hst hcf hin (by rw [q2]; exact h6) q1 q3 hlt rfl rfl hdg hend
theorem pw_cell8 (hW : pw_Wd D dA base n sh P I H) {a : Nat} (h : (sh a).1 = 8 ∨ (sh a).1 = 9) : H[a]? = some (arrV (dA (sh a).1) (sh a).2 (fun j => .int (I a j))) := (hW.2 a (by omega)).2.2.1 h
theorem pw_cell10 (hW : pw_Wd D dA base n sh P I H) {a : Nat} (h : 10 ≤ (sh a).1 ∧ (sh a).1 ≤ 12) : H[a]? = some (arrV (dA (sh a).1) (sh a).2 (fun j => va_rf (P a j))) := (hW.2 a (by omega)).2.2.2 h
theorem pw_iald (C : pw_ctx p s m args meth c R g D dA) (hW : pw_Wd D dA base n sh P I H) {a : Nat} {i : Int32} (hsh : (sh a).1 = 8) (hin : vp_in i (sh a).2) (hdg : decode g.1.2.1 pc = .ok (.iaload, 1))
    (kk : W p l e R s m args below meth c H locs cells slots Q (F0 m (pc + 1) ls (.int (I a i.toNatClampNeg) :: rest))) : W p l e R s m args below meth c H locs cells slots Q (F0 m pc ls (.int i :: .ref a :: rest)) := by
  obtain ⟨hx, hb, -, -, hown, hts, -, ⟨hK, -⟩, -⟩ := C
  have h := pw_cell8 hW (Or.inl hsh)
  rw [hsh] at h
  have hlt : i.toNatClampNeg < (sh a).2 := Nat.not_le.mp fun q => hin (Or.inr q)
  exact W.iald (v := .int (I a i.toNatClampNeg)) hx hb h ((hK.2 0 _ rfl).1 (sh a).2 (fun j => .int (I a j))) (fun q => by cases q) (by rw [arrV_size]; exact hin) (arrV_read _ _ hlt) rfl rfl hdg kk
theorem pw_cald (C : pw_ctx p s m args meth c R g D dA) (hW : pw_Wd D dA base n sh P I H) {a : Nat} {i : Int32} (hsh : (sh a).1 = 9) (hin : vp_in i (sh a).2) (hdg : decode g.1.2.1 pc = .ok (.caload, 1))
    (kk : W p l e R s m args below meth c H locs cells slots Q (F0 m (pc + 1) ls (.int (I a i.toNatClampNeg) :: rest))) : W p l e R s m args below meth c H locs cells slots Q (F0 m pc ls (.int i :: .ref a :: rest)) := by
  obtain ⟨hx, hb, -, -, hown, hts, -, ⟨hK, -⟩, -⟩ := C
  have h := pw_cell8 hW (Or.inr hsh)
  rw [hsh] at h
  have hlt : i.toNatClampNeg < (sh a).2 := Nat.not_le.mp fun q => hin (Or.inr q)
  exact W.cald (v := .int (I a i.toNatClampNeg)) hx hb h ((hK.2 1 _ rfl).1 (sh a).2 (fun j => .int (I a j))) (fun q => by cases q) (by rw [arrV_size]; exact hin) (arrV_read _ _ hlt) rfl rfl hdg kk
theorem pw_updV {I : pw_I} {a k : Nat} {x : Int32} : updV (fun j => Value.int (I a j)) k (.int x) = fun j => Value.int (pw_up I a k x a j) := by
  funext j
  by_cases h : j = k
  · subst h; simp [updV, pw_up]
  · simp [updV, pw_up, h]
theorem pw_updP {P : pw_P} {a k : Nat} {x : Option Nat} : updV (fun j => va_rf (P a j)) k (va_rf x) = fun j => va_rf (pw_upP P a k x a j) := by
  funext j
  by_cases h : j = k
  · subst h; simp [updV, pw_upP]
  · simp [updV, pw_upP, h]
theorem pw_iast (C : pw_ctx p s m args meth c R g D dA) (hW : pw_Wd D dA base n sh P I H) {A : Nat → Prop} (hS0 : va_S A s.heap H locs) {a : Nat} {i x : Int32} (hA : A a) (hsh : (sh a).1 = 8) (hin : vp_in i (sh a).2) (hdg : decode g.1.2.1 pc = .ok (.iastore, 1))
    (kk : ∀ (H1 : Heap) (locs1 : List Loc), pw_Wd D dA base n sh P (pw_up I a i.toNatClampNeg x) H1 → va_S A s.heap H1 locs1 → W p l e R s m args below meth c H1 locs1 cells slots Q (F0 m (pc + 1) ls rest)) : W p l e R s m args below meth c H locs cells slots Q (F0 m pc ls (.int x :: .int i :: .ref a :: rest)) := by
  obtain ⟨hx, hb, -, -, hown, hts, -, ⟨hK, -⟩, -⟩ := C
  have h := pw_cell8 hW (Or.inl hsh)
  rw [hsh] at h
  refine W.iast hx hb h ((hK.2 0 _ rfl).1 (sh a).2 (fun j => .int (I a j))) (fun q => by cases q) (by rw [arrV_size]; exact hin) rfl rfl hdg fun H1 e z oq => ?_
  refine kk H1 _ (hW.put z oq (fun _ _ _ => rfl) (fun q hq k => pw_up_a hq) ⟨fun h => absurd h (by omega), fun _ => ?_, fun h => absurd h (by omega)⟩) (hS0.put z oq hA)
  rw [e, arrV_store, pw_updV, hsh]
theorem pw_cast (C : pw_ctx p s m args meth c R g D dA) (hW : pw_Wd D dA base n sh P I H) {A : Nat → Prop} (hS0 : va_S A s.heap H locs) {a : Nat} {i x : Int32} (hA : A a) (hsh : (sh a).1 = 9) (hin : vp_in i (sh a).2) (hx0 : narrow .char (.int x) = .int x) (hdg : decode g.1.2.1 pc = .ok (.castore, 1))
    (kk : ∀ (H1 : Heap) (locs1 : List Loc), pw_Wd D dA base n sh P (pw_up I a i.toNatClampNeg x) H1 → va_S A s.heap H1 locs1 → W p l e R s m args below meth c H1 locs1 cells slots Q (F0 m (pc + 1) ls rest)) : W p l e R s m args below meth c H locs cells slots Q (F0 m pc ls (.int x :: .int i :: .ref a :: rest)) := by
  obtain ⟨hx, hb, -, -, hown, hts, -, ⟨hK, -⟩, -⟩ := C
  have h := pw_cell8 hW (Or.inr hsh)
  rw [hsh] at h
  refine W.cast hx hb h ((hK.2 1 _ rfl).1 (sh a).2 (fun j => .int (I a j))) (fun q => by cases q) (by rw [arrV_size]; exact hin) rfl rfl hdg fun H1 e z oq => ?_
  refine kk H1 _ (hW.put z oq (fun _ _ _ => rfl) (fun q hq k => pw_up_a hq) ⟨fun h => absurd h (by omega), fun _ => ?_, fun h => absurd h (by omega)⟩) (hS0.put z oq hA)
  rw [e, hx0, arrV_store, pw_updV, hsh]
/-- the class of what an array of references holds -/
def pw_el : Nat → Nat
  | 10 => 4
  | 11 => 3
  | _ => 0
theorem pw_tysk {dA : Nat → ClassId} {k : Nat} (h : 10 ≤ k ∧ k ≤ 12) : (pw_tys dA)[k - 8]? = some (dA k, .object (pw_R (pw_el k))) := by
  have : k = 10 ∨ k = 11 ∨ k = 12 := by omega
  rcases this with rfl | rfl | rfl <;> rfl
theorem pw_aald (C : pw_ctx p s m args meth c R g D dA) (hW : pw_Wd D dA base n sh P I H) {a : Nat} {i : Int32} (hsh : 10 ≤ (sh a).1 ∧ (sh a).1 ≤ 12) (hin : vp_in i (sh a).2) (hdg : decode g.1.2.1 pc = .ok (.aaload, 1))
    (kk : W p l e R s m args below meth c H locs cells slots Q (F0 m (pc + 1) ls (va_rf (P a i.toNatClampNeg) :: rest))) : W p l e R s m args below meth c H locs cells slots Q (F0 m pc ls (.int i :: .ref a :: rest)) := by
  obtain ⟨hx, hb, -, -, hown, hts, -, ⟨hK, -⟩, -⟩ := C
  have hlt : i.toNatClampNeg < (sh a).2 := Nat.not_le.mp fun q => hin (Or.inr q)
  exact W.aald (v := va_rf (P a i.toNatClampNeg)) (ty := .object (pw_R (pw_el (sh a).1))) hx hb (pw_cell10 hW hsh) ((hK.2 _ _ (pw_tysk hsh)).1 (sh a).2 (fun j => va_rf (P a j))) rfl (fun q => by cases q) (by rw [arrV_size]; exact hin) (arrV_read _ _ hlt) rfl rfl hdg kk
theorem pw_alen (C : pw_ctx p s m args meth c R g D dA) (hW : pw_Wd D dA base n sh P I H) {a : Nat} (hsh : 8 ≤ (sh a).1 ∧ (sh a).1 ≤ 12) (hdg : decode g.1.2.1 pc = .ok (.arraylength, 1))
    (kk : W p l e R s m args below meth c H locs cells slots Q (F0 m (pc + 1) ls (.int (nI (sh a).2) :: rest))) : W p l e R s m args below meth c H locs cells slots Q (F0 m pc ls (.ref a :: rest)) := by
  obtain ⟨hx, hb, -, -, hown, hts, -, ⟨hK, -⟩, -⟩ := C
  by_cases h8 : (sh a).1 = 8 ∨ (sh a).1 = 9
  · have h := pw_cell8 hW h8
    rcases h8 with h8 | h8
    · rw [h8] at h
      exact W.alen (n := nI (sh a).2) hx hb h ((hK.2 0 _ rfl).1 (sh a).2 (fun j => .int (I a j))) (by rw [arrV_size]; rfl) rfl rfl hdg kk
    · rw [h8] at h
      exact W.alen (n := nI (sh a).2) hx hb h ((hK.2 1 _ rfl).1 (sh a).2 (fun j => .int (I a j))) (by rw [arrV_size]; rfl) rfl rfl hdg kk
  · have h10 : 10 ≤ (sh a).1 ∧ (sh a).1 ≤ 12 := by omega
    exact W.alen (n := nI (sh a).2) hx hb (pw_cell10 hW h10) ((hK.2 _ _ (pw_tysk h10)).1 (sh a).2 (fun j => va_rf (P a j))) (by rw [arrV_size]; rfl) rfl rfl hdg kk
/-- a reference is stored into an array of its class -/
theorem pw_aast (C : pw_ctx p s m args meth c R g D dA) (hW : pw_Wd D dA base n sh P I H) {A : Nat → Prop} (hS0 : va_S A s.heap H locs) {a v : Nat} {i : Int32} (hA : A a) (hsh : 10 ≤ (sh a).1 ∧ (sh a).1 ≤ 12) (hcl : pw_clok (pw_el (sh a).1)) (hv : (sh v).1 = pw_el (sh a).1) (hin : vp_in i (sh a).2) (hdg : decode g.1.2.1 pc = .ok (.aastore, 1))
    (kk : ∀ (H1 : Heap) (locs1 : List Loc), pw_Wd D dA base n sh (pw_upP P a i.toNatClampNeg (some v)) I H1 → va_S A s.heap H1 locs1 → W p l e R s m args below meth c H1 locs1 cells slots Q (F0 m (pc + 1) ls rest)) : W p l e R s m args below meth c H locs cells slots Q (F0 m pc ls (.ref v :: .int i :: .ref a :: rest)) := by
  obtain ⟨hx, hb, -, -, hown, hts, -, ⟨hK, -⟩, -⟩ := C
  have hel : pw_el (sh a).1 < 8 := by
    have : (sh a).1 = 10 ∨ (sh a).1 = 11 ∨ (sh a).1 = 12 := by omega
    rcases this with h | h | h <;> rw [h] <;> decide
  have hlt : i.toNatClampNeg < (sh a).2 := Nat.not_le.mp fun q => hin (Or.inr q)
  have h0 : ¬ i < 0 := fun q => hin (Or.inl q)
  obtain ⟨cellV, g1, g2, g3, -⟩ := (hW.2 v (by omega)).2.1 (by omega)
  rw [hv] at g2
  have hcls := (hK.1 _ _ hcl.1).2
  obtain ⟨kA, comp, k1, k2, k3, -⟩ := (hK.2 _ _ (pw_tysk hsh)).2
  have hcomp : comp = D.1 (pw_el (sh a).1) := Option.some.inj (k3.symm.trans hcls.1)
  subst hcomp
  obtain ⟨kC, hkC, -⟩ := hcls.2
  refine W.aast hx hb (pw_cell10 hW hsh) (fun q h => by cases h) (fun h => by cases h) k1 k2 rfl hkC ⟨h0, by rw [arrV_size]; exact hlt⟩ g1 (fun q h => by rw [g3] at h; cases h) (by rw [g2]; exact hkC) (by rw [g2]; exact va_assign hcls) rfl rfl hdg fun H1 e z oq => ?_
  refine kk H1 _ (hW.put z oq (fun q hq k => pw_upP_a hq) (fun _ _ _ => rfl) ⟨fun h => absurd h (by omega), fun h => absurd h (by omega), fun _ => ?_⟩) (hS0.put z oq hA)
  rw [e, arrV_store, show (Value.ref v) = va_rf (some v) from rfl, pw_updP]
end PWH
end
section
/-! a body's steps as a condition (sx), computed along the code (vc): what is left is plain mathematics of I -/
abbrev pm_E : Type := Instr × Nat × Nat × Nat × Nat × Int32 × List (Int32 × Nat)
abbrev pw_C : Type := Nat → List Value → pw_I → (Option Value → pw_I → Prop) → Prop
abbrev pw_Kt : Type := Nat → List (Option Value) → List Value → pw_I → Prop
def s_i (st : List Value) (k : Int32 → List Value → Prop) : Prop := match st with
  | .int x :: r => k x r
  | _ => False
def s_r (st : List Value) (k : Nat → List Value → Prop) : Prop := match st with
  | .ref x :: r => k x r
  | _ => False
def s_v (st : List Value) (k : Value → List Value → Prop) : Prop := match st with
  | .int x :: r => k (.int x) r
  | .ref x :: r => k (.ref x) r
  | _ => False
def s_l : List (Option Value) → Nat → (Value → Prop) → Prop
  | some v :: _, 0, k => k v
  | _ :: L, j + 1, k => s_l L j k
  | _, _, _ => False
def s_a : Nat → List Value → List Value → (List Value → List Value → Prop) → Prop
  | 0, st, acc, k => k acc st
  | n + 1, v :: st, acc, k => s_a n st (v :: acc) k
  | _, _, _, _ => False
def s_m : Nat → List Value → Prop
  | _, [] => True
  | n + 1, .int _ :: r => s_m n r
  | n + 1, .ref _ :: r => s_m n r
  | _, _ => False
def s_w : List (Int32 × Nat) → Int32 → Nat → (Nat → Prop) → Prop
  | [], _, d, k => k d
  | (c, t) :: r, x, d, k => (x = c → k t) ∧ (¬ x = c → s_w r x d k)
def s_c (c : ClassFile.Cond) (x y : Int32) : Prop := match c with
  | .eq => x = y
  | .ne => ¬ x = y
  | .lt => x < y
  | .ge => y ≤ x
  | .gt => y < x
  | .le => x ≤ y
def s_p (c : ClassFile.Cond) (x y : Int32) (A B : Prop) : Prop := match c with
  | .eq => (x = y → A) ∧ (¬ x = y → B)
  | .ne => (¬ x = y → A) ∧ (x = y → B)
  | .lt => (x < y → A) ∧ (¬ x < y → B)
  | .ge => (y ≤ x → A) ∧ (¬ y ≤ x → B)
  | .gt => (y < x → A) ∧ (¬ y < x → B)
  | .le => (x ≤ y → A) ∧ (¬ x ≤ y → B)
/-- one instruction: i, the next place, three numbers, a whole number, a switch's table -/
def sx (ret : Option FieldType) (n : Nat) (sh : pw_Sh) (P : pw_P) (C : pw_C) (Q : pw_Q) (i : Instr) (nx a b c : Nat) (v : Int32) (sw : List (Int32 × Nat)) (L : List (Option Value)) (st : List Value) (I : pw_I) (K : pw_Kt) : Prop := match i with
  | .iconst _ => K nx L (.int v :: st) I
  | .bipush _ => K nx L (.int v :: st) I
  | .sipush _ => K nx L (.int v :: st) I
  | .ldc _ => K nx L (.int v :: st) I
  | .ldc_w _ => K nx L (.int v :: st) I
  | .iload_n j => s_l L j.val fun w => s_i [w] fun x _ => K nx L (.int x :: st) I
  | .iload j => s_l L j fun w => s_i [w] fun x _ => K nx L (.int x :: st) I
  | .aload_n j => s_l L j.val fun w => s_r [w] fun x _ => K nx L (.ref x :: st) I
  | .aload j => s_l L j fun w => s_r [w] fun x _ => K nx L (.ref x :: st) I
  | .istore_n j => s_i st fun x r => j.val < L.length ∧ K nx (L.set j.val (some (.int x))) r I
  | .istore j => s_i st fun x r => j < L.length ∧ K nx (L.set j (some (.int x))) r I
  | .astore_n j => s_r st fun x r => j.val < L.length ∧ K nx (L.set j.val (some (.ref x))) r I
  | .astore j => s_r st fun x r => j < L.length ∧ K nx (L.set j (some (.ref x))) r I
  | .iinc j _ => s_l L j fun w => s_i [w] fun x _ => K nx (L.set j (some (.int (x + v)))) st I
  | .iadd => s_i st fun y r => s_i r fun x r => K nx L (.int (x + y) :: r) I
  | .isub => s_i st fun y r => s_i r fun x r => K nx L (.int (x - y) :: r) I
  | .imul => s_i st fun y r => s_i r fun x r => K nx L (.int (x * y) :: r) I
  | .iand => s_i st fun y r => s_i r fun x r => K nx L (.int (x &&& y) :: r) I
  | .ior => s_i st fun y r => s_i r fun x r => K nx L (.int (x ||| y) :: r) I
  | .ixor => s_i st fun y r => s_i r fun x r => K nx L (.int (x ^^^ y) :: r) I
  | .idiv => s_i st fun y r => s_i r fun x r => ¬ y = 0 ∧ K nx L (.int (x / y) :: r) I
  | .irem => s_i st fun y r => s_i r fun x r => ¬ y = 0 ∧ K nx L (.int (x - x / y * y) :: r) I
  | .ishl => s_i st fun y r => s_i r fun x r => K nx L (.int (x <<< (y &&& 31)) :: r) I
  | .ishr => s_i st fun y r => s_i r fun x r => K nx L (.int (x >>> (y &&& 31)) :: r) I
  | .iushr => s_i st fun y r => s_i r fun x r => K nx L (.int (x.toUInt32 >>> (y.toUInt32 &&& Int32.toUInt32 31)).toInt32 :: r) I
  | .i2c => s_i st fun x r => K nx L (.int (x.toUInt32 % 65536).toInt32 :: r) I
  | .dup => s_v st fun x r => K nx L (x :: x :: r) I
  | .dup2 => s_v st fun x r => s_v r fun y r => K nx L (x :: y :: x :: y :: r) I
  | .pop => s_v st fun _ r => K nx L r I
  | .goto _ => K a L st I
  | .ifCond cd _ => s_i st fun x r => s_p cd x 0 (K a L r I) (K nx L r I)
  | .if_icmp cd _ => s_i st fun y r => s_i r fun x r => s_p cd x y (K a L r I) (K nx L r I)
  | .tableswitch _ _ _ _ => s_i st fun x r => s_w sw x a (fun t => K t L r I)
  | .lookupswitch _ _ => s_i st fun x r => s_w sw x a (fun t => K t L r I)
  | .getfield _ => s_r st fun o r => (sh o).1 = a ∧ K nx L ((match sw with
    | [] => .int (I o b)
    | _ => va_rf (P o b)) :: r) I
  | .putfield _ => s_i st fun x r => s_r r fun o r => (sh o).1 = a ∧ (match sw with
    | [] => True
    | _ => x = 0 ∨ x = 1) ∧ K nx L r (pw_up I o b x)
  | .iaload => s_i st fun j r => s_r r fun o r => (sh o).1 = 8 ∧ vp_in j (sh o).2 ∧ K nx L (.int (I o j.toNatClampNeg) :: r) I
  | .caload => s_i st fun j r => s_r r fun o r => (sh o).1 = 9 ∧ vp_in j (sh o).2 ∧ K nx L (.int (I o j.toNatClampNeg) :: r) I
  | .aaload => s_i st fun j r => s_r r fun o r => (10 ≤ (sh o).1 ∧ (sh o).1 ≤ 12) ∧ vp_in j (sh o).2 ∧ K nx L (va_rf (P o j.toNatClampNeg) :: r) I
  | .iastore => s_i st fun x r => s_i r fun j r => s_r r fun o r => (sh o).1 = 8 ∧ vp_in j (sh o).2 ∧ K nx L r (pw_up I o j.toNatClampNeg x)
  | .castore => s_i st fun x r => s_i r fun j r => s_r r fun o r => (sh o).1 = 9 ∧ vp_in j (sh o).2 ∧ pw_nok (some .char) x ∧ K nx L r (pw_up I o j.toNatClampNeg x)
  | .arraylength => s_r st fun o r => (8 ≤ (sh o).1 ∧ (sh o).1 ≤ 12) ∧ K nx L (.int (nI (sh o).2) :: r) I
  | .invokestatic _ => s_a b st [] fun Ag r => s_m 8 r ∧ C a Ag I (fun w I' => K nx L (w.toList ++ r) I')
  | .invokevirtual _ => s_a b st [] fun Ag r => s_r r fun o r => (sh o).1 = c ∧ s_m 8 r ∧ C a (.ref o :: Ag) I (fun w I' => K nx L (w.toList ++ r) I')
  | .ireturn => s_i st fun x r => r = [] ∧ pw_nok ret x ∧ Q (some (.int x)) n sh P I
  | .return_ => st = [] ∧ ret = none ∧ Q none n sh P I
  | _ => False
/-- the table of a method's code: each entry as the bytes have it -/
def pm_tgt (pc : Nat) (off : Int) (t : Nat) : Bool := decide ((pc : Int) + off = (t : Int))
/-- how a call is linked -/
def pm_ln (own : String) (idx : Nat) (y : pm_I) (nargs : Nat) : Prop :=
  Cond.code y.1 y.2.1 y.2.2.1 y.2.2.2 ∈ pw_T ∧ Cond.initialized y.1.cls ∈ pw_T ∧ (Cond.methodLink own idx y.1 ∈ pw_T ∨ ∃ host, Cond.methodLinkNest own idx y.1 host ∈ pw_N) ∧
  (y.1.cls ≠ "java/lang/invoke/MethodHandle" ∧ y.1.cls ≠ "java/lang/invoke/VarHandle" ∧ (parseMethodDescriptor y.1.desc).map (fun d => d.parameters.length) = some nargs) ∧ y.2.2.1 ≤ 11
def pm_lnS (own : String) (idx : Nat) (y : pm_I) (nargs : Nat) : Prop := pm_ln own idx y nargs ∧ Cond.static y.1 ∈ pw_T
def pm_lnV (own : String) (idx : Nat) (y : pm_I) (nargs c : Nat) : Prop := pm_ln own idx y nargs ∧ Cond.instanceMethod y.1 ∈ pw_T ∧ Cond.selects y.1.cls y.1 y.1 ∈ pw_T ∧ c < 8 ∧ pw_R c = y.1.cls ∧ pw_clok c
/-- the field (class ci, slot k) of an entry -/
def pm_ok (y : pm_I) (Ms : Nat → pm_I) (pc : Nat) (q : pm_E) : Prop := match q with
  | (i, nx, a, b, c, v, sw) => decode y.2.1 pc = .ok (i, nx - pc) ∧ pc < nx ∧ match i with
    | .iconst x => nx = pc + 1 ∧ Int32.ofInt x = v
    | .bipush x => nx = pc + 2 ∧ (Int8.ofInt x).toInt32 = v
    | .sipush x => nx = pc + 3 ∧ (Int16.ofInt x).toInt32 = v
    | .ldc x => nx = pc + 2 ∧ Cond.constant y.1.cls x v ∈ pw_T
    | .ldc_w x => nx = pc + 3 ∧ Cond.constant y.1.cls x v ∈ pw_T
    | .iload _ => nx = pc + 2
    | .aload _ => nx = pc + 2
    | .istore _ => nx = pc + 2
    | .astore _ => nx = pc + 2
    | .iinc _ x => nx = pc + 3 ∧ Int32.ofInt x = v
    | .goto off => nx = pc + 3 ∧ (pc : Int) + off = (a : Int)
    | .ifCond _ off => nx = pc + 3 ∧ (pc : Int) + off = (a : Int)
    | .if_icmp _ off => nx = pc + 3 ∧ (pc : Int) + off = (a : Int)
    | .tableswitch d lo hi offs => (pc : Int) + d = (a : Int) ∧ -2147483648 ≤ lo ∧ hi < 2147483648 ∧ offs.size = (hi + 1 - lo).toNat ∧ sw = (List.range offs.size).map (fun (j : Nat) => (Int32.ofInt (lo + (j : Int)), ((pc : Int) + offs.getD j 0).toNat)) ∧ (List.range offs.size).all (fun (j : Nat) => decide (0 ≤ (pc : Int) + offs.getD j 0)) = true
    | .lookupswitch d ps => (pc : Int) + d = (a : Int) ∧ (ps.toList.zip (ps.toList.drop 1)).all (fun (a, next) => a.1 < next.1) = true ∧ sw = ps.toList.map (fun q => (Int32.ofInt q.1, ((pc : Int) + q.2).toNat)) ∧ ps.toList.all (fun q => decide (0 ≤ (pc : Int) + q.2 ∧ -2147483648 ≤ q.1 ∧ q.1 < 2147483648)) = true
    | .getfield x => nx = pc + 3 ∧ a < 8 ∧ pw_clok a ∧ b < pw_nf a ∧ pw_fl y.1.cls x a b ∧ pw_rf a b = (match sw with
      | [] => false
      | _ => true)
    | .putfield x => nx = pc + 3 ∧ a < 8 ∧ pw_clok a ∧ b < pw_nf a ∧ pw_fl y.1.cls x a b ∧ pw_rf a b = false ∧ (pw_tb a b).2.2.2 = false ∧ (match sw with
      | [] => pw_ty a b = .int
      | _ => pw_ty a b = .boolean)
    | .invokestatic x => nx = pc + 3 ∧ pm_lnS y.1.cls x (Ms a) b
    | .invokevirtual x => nx = pc + 3 ∧ pm_lnV y.1.cls x (Ms a) b c
    | _ => nx = pc + 1
theorem s_p_of {c : ClassFile.Cond} {x y : Int32} {A B : Prop} (h : s_p c x y A B) : (s_c c x y → A) ∧ (¬ s_c c x y → B) := by
  cases c <;> first | exact h | exact ⟨h.1, fun q => h.2 (Classical.not_not.mp q)⟩
theorem s_w_of {sw : List (Int32 × Nat)} {x : Int32} {d : Nat} {k : Nat → Prop} (h : s_w sw x d k) : (∃ t, (x, t) ∈ sw ∧ k t ∧ ∃ i : Nat, sw[i]? = some (x, t) ∧ ∀ j : Nat, j < i → ∀ q, sw[j]? = some q → q.1 ≠ x) ∨ ((∀ q ∈ sw, q.1 ≠ x) ∧ k d) := by
  induction sw with
  | nil => exact Or.inr ⟨fun q hq => (by cases hq), h⟩
  | cons q r ih =>
    obtain ⟨c, t⟩ := q
    by_cases e : x = c
    · subst e
      exact Or.inl ⟨t, List.mem_cons_self, h.1 rfl, 0, rfl, fun j hj => absurd hj (Nat.not_lt_zero j)⟩
    · rcases ih (h.2 e) with ⟨t', h1, h2, i, h3, h4⟩ | ⟨h1, h2⟩
      · refine Or.inl ⟨t', List.mem_cons_of_mem _ h1, h2, i + 1, by rw [List.getElem?_cons_succ]; exact h3, fun j hj q hq => ?_⟩
        cases j with
        | zero => rw [List.getElem?_cons_zero] at hq; cases hq; exact fun z => e z.symm
        | succ j => rw [List.getElem?_cons_succ] at hq; exact h4 j (by omega) q hq
      · refine Or.inr ⟨fun q hq => ?_, h2⟩
        rcases List.mem_cons.mp hq with rfl | hq
        · exact fun z => e z.symm
        · exact h1 q hq
theorem s_l_of {L : List (Option Value)} {j : Nat} {k : Value → Prop} (h : s_l L j k) : ∃ v, L[j]? = some (some v) ∧ k v := by
  induction L generalizing j with
  | nil => cases j <;> exact h.elim
  | cons o L ih =>
    cases j with
    | zero =>
      cases o with
      | none => exact h.elim
      | some v => exact ⟨v, rfl, h⟩
    | succ j =>
      have h' : s_l L j k := by cases o <;> exact h
      obtain ⟨v, h1, h2⟩ := ih h'
      exact ⟨v, by rw [List.getElem?_cons_succ]; exact h1, h2⟩
theorem s_i_of {st : List Value} {k : Int32 → List Value → Prop} (h : s_i st k) : ∃ x r, st = .int x :: r ∧ k x r := by
  unfold s_i at h
  split at h
  · exact ⟨_, _, rfl, h⟩
  · exact h.elim
theorem s_r_of {st : List Value} {k : Nat → List Value → Prop} (h : s_r st k) : ∃ x r, st = .ref x :: r ∧ k x r := by
  unfold s_r at h
  split at h
  · exact ⟨_, _, rfl, h⟩
  · exact h.elim
theorem s_v_of {st : List Value} {k : Value → List Value → Prop} (h : s_v st k) : ∃ x r, st = x :: r ∧ x.category = 1 ∧ k x r := by
  unfold s_v at h
  split at h
  · exact ⟨_, _, rfl, rfl, h⟩
  · exact ⟨_, _, rfl, rfl, h⟩
  · exact h.elim
theorem s_a_of : ∀ {n : Nat} {st acc : List Value} {k : List Value → List Value → Prop}, s_a n st acc k → ∃ As r, As.length = n ∧ st = As.reverse ++ r ∧ k (As ++ acc) r
  | 0, st, acc, k, h => ⟨[], st, rfl, rfl, h⟩
  | n + 1, [], acc, k, h => h.elim
  | n + 1, v :: st, acc, k, h => by
    obtain ⟨As, r, h1, h2, h3⟩ := s_a_of (n := n) (st := st) (acc := v :: acc) (k := k) h
    refine ⟨As ++ [v], r, by simp [h1], by simp [h2], by simpa using h3⟩
theorem s_m_of : ∀ {n : Nat} {st : List Value}, s_m n st → (st.map fun v => v.category).sum ≤ n
  | n, [], _ => by simp
  | 0, v :: r, h => by cases v <;> exact h.elim
  | n + 1, v :: r, h => by
    cases v with
    | int x =>
      have := s_m_of (n := n) (st := r) h
      rw [List.map_cons, List.sum_cons]
      show 1 + _ ≤ n + 1
      omega
    | ref x =>
      have := s_m_of (n := n) (st := r) h
      rw [List.map_cons, List.sum_cons]
      show 1 + _ ≤ n + 1
      omega
    | _ => exact h.elim
end
section
/-! the calls, and that a body's condition (sx, vc) is enough -/
section PWC
variable {p : Program} {l : Launch} {e : Env} {R : Room} {s : State} {m : MethodId} {args : Array Value} {below : List Frame} {meth : Method} {c : Code} {H : Heap} {locs : List Loc} {cells slots : Nat} {Q : State → Prop}
variable {pc : Nat} {ls : Array Slot} {rest st0 : List Value} {a : Array Value} {base mc ms : Nat} {D : va_G} {dA : Nat → ClassId} {Qc : pw_Q}
theorem pw_run (hr : va_Run p l e R s m args below meth c H locs cells slots mc ms (F0 m pc ls st0) rest (pm_Qc base Qc D dA a) (fun q => base ≤ q)) (hS : va_S (fun q => base ≤ q) s.heap H locs)
    (kk : ∀ (v : Option Value) (n' : Nat) (sh' : pw_Sh) (P' : pw_P) (I' : pw_I) (H1 : Heap) (locs1 : List Loc), Qc v n' sh' P' I' → pw_Wd D dA base n' sh' P' I' H1 → va_S (fun q => base ≤ q) s.heap H1 locs1 → (v = none ∨ ∃ x : Int32, v = some (.int x)) → W p l e R s m args below meth c H1 locs1 (cells + mc) (slots + ms) Q (F0 m (pc + 3) ls (v.toList ++ rest))) :
    W p l e R s m args below meth c H locs cells slots Q (F0 m pc ls st0) := by
  intro T hT X
  obtain ⟨v, st₀, t, T', L, h0, X', hL, e1, e2, ⟨⟨v', n', sh', P', I', hv, hq, hw, hvok⟩, hz, hk⟩, st⟩ := hr T hT X
  cases hv
  rw [h0] at hz hk
  rw [← e1] at hw hz
  obtain ⟨t2, a1, b1⟩ := kk v n' sh' P' I' T'.heap (locs ++ L) hq hw
    ⟨Nat.le_trans hS.1 hz, fun q h1 h2 => by rw [e1, hk q (Nat.lt_of_lt_of_le h1 hS.1) h2]; exact hS.2.1 q h1 h2, fun q hq => by
      rcases List.mem_append.mp hq with h | h
      · exact hS.2.2 q h
      · exact hL q h⟩ hvok T' rfl X'
  exact ⟨t2, st t2 a1, b1⟩
theorem pm_lB {g : pw_g} (C : pw_ctx p s m args meth c R g D dA) {y : pm_I} {d' mc' ms' idx nargs : Nat} (hd : d' < g.2.1) (hl : pm_ln g.1.1.cls idx y nargs) :
    (pm_R d' mc' ms').frames + 1 ≤ R.frames ∧ 8 + (y.2.2.1 + 11) + (pm_R d' mc' ms').locals ≤ R.locals := by
  obtain ⟨-, -, -, -, -, -, -, -, -, ⟨r1, r2, -⟩, -⟩ := C
  have h11 := hl.2.2.2.2
  show d' + 1 ≤ R.frames ∧ 8 + (y.2.2.1 + 11) + 30 * d' ≤ R.locals
  omega
theorem pw_recv {n : Nat} {sh : pw_Sh} {P : pw_P} {I : pw_I} (hK : pw_K D dA s) (hW : pw_Wd D dA base n sh P I H) {b k : Nat} (hk : k < 8) (hcl : pw_clok k) (hsh : (sh b).1 = k) : ∃ cell : Cell, H[b]? = some cell ∧ cell.vm.isStatics = false ∧ s.vm.findClass (pw_R k) = some cell.cls := by
  obtain ⟨cell, q1, q2, q3, -⟩ := (hW.2 b (by omega)).2.1 (by omega)
  rw [hsh] at q2
  exact ⟨cell, q1, by rw [q3]; rfl, by rw [q2]; exact (hK.1.1 k _ hcl.1).2.1⟩
end PWC
section PWD
variable {g : pw_g} {n : Nat} {sh : pw_Sh} {P : pw_P} {I : pw_I} {uc us pc : Nat} {L : List (Option Value)} {Q : pw_Q}
theorem PW.callV {y : pm_I} {d' mc' ms' k b idx : Nat} {As r : List Value} {Qc : pw_Q} (hM : PM y d' mc' ms' g.2.2.2.2.2 (.ref b :: As) n sh P I Qc) (hd : d' < g.2.1) (hmc : uc + mc' ≤ g.2.2.1) (hms : us + ms' ≤ g.2.2.2.1)
    (hl : pm_lnV g.1.1.cls idx y As.length k) (hsh : (sh b).1 = k) (hm : s_m 8 r) (hdg : decode g.1.2.1 pc = .ok (.invokevirtual idx, 3))
    (kk : ∀ v n' sh' P' I', Qc v n' sh' P' I' → PW g n' sh' P' I' (uc + mc') (us + ms') (pc + 3) L (v.toList ++ r) Q) : PW g n sh P I uc us pc L (As.reverse ++ .ref b :: r) Q := by
  intro p l e R s m args below meth c H locs cells slots D dA ls Qf C hW hS hls hc hs hr
  have hB := pm_lB (mc' := mc') (ms' := ms') C hd hl.1
  obtain ⟨hx, hb, hrt, hml, hown, hts, hlk, hK, hin, ⟨r1, r2, r3, r4⟩, hbs, hX⟩ := id C
  obtain ⟨⟨l1, l2, l3, l4, l5⟩, l6, l7, l8, l9, l10⟩ := hl
  have hrec := pw_recv hK hW l8 l10 hsh
  rw [l9] at hrec
  have hpre : PreV s H y.1.cls b (pm_Pc g.2.2.2.2.2 n (.ref b :: As) sh P I D dA) As := ⟨pm_blind, hrec, fun U hU hWm => ⟨rfl, by rw [hU]; exact hW, hK.warm hWm⟩⟩
  have hkk : ∀ (v : Option Value) (n' : Nat) (sh' : pw_Sh) (P' : pw_P) (I' : pw_I) (H1 : Heap) (locs1 : List Loc), Qc v n' sh' P' I' → pw_Wd D dA g.2.2.2.2.2 n' sh' P' I' H1 → va_S (fun q => g.2.2.2.2.2 ≤ q) s.heap H1 locs1 → (v = none ∨ ∃ x : Int32, v = some (.int x)) → W p l e R s m args below meth c H1 locs1 (cells + mc') (slots + ms') Qf (F0 m (pc + 3) ls (v.toList ++ r)) :=
    fun v n' sh' P' I' H1 locs1 h1 h2 h3 _ => kk v n' sh' P' I' h1 p l e R s m args below meth c H1 locs1 _ _ D dA ls Qf C h2 h3 hls (by omega) (by omega) hr
  have hfit : cells + mc' ≤ R.cells ∧ slots + ms' ≤ R.slots := ⟨by omega, by omega⟩
  rcases l3 with l3 | ⟨host, l3⟩
  · exact pw_run (va_runV (As := As) (rest := r) (g := F0 m pc ls (As.reverse ++ .ref b :: r)) ⟨hx, hb, hml, hown, hts⟩ (hM l D dA) ⟨callB_of As.length hts (pw_goodT l1) rfl rfl rfl (hts _ l2) (hts _ l3) l4 hB, hts _ l6, hts _ l7⟩ hpre rfl rfl hls.1 rfl (lv_room (s_m_of hm)) hdg hfit) hS hkk
  · exact pw_run (va_runVN (As := As) (rest := r) (g := F0 m pc ls (As.reverse ++ .ref b :: r)) ⟨hx, hb, hml, hown, hts⟩ (hM l D dA) ⟨va_cnB As.length hts (pw_goodT l1) rfl rfl rfl (hK.2.1 _ l3) (hts _ l2) l4 hB, hts _ l6, hts _ l7⟩ hpre rfl rfl hls.1 rfl (lv_room (s_m_of hm)) hdg hfit) hS hkk
theorem PW.callS {y : pm_I} {d' mc' ms' idx : Nat} {As r : List Value} {Qc : pw_Q} (hM : PM y d' mc' ms' g.2.2.2.2.2 As n sh P I Qc) (hd : d' < g.2.1) (hmc : uc + mc' ≤ g.2.2.1) (hms : us + ms' ≤ g.2.2.2.1)
    (hl : pm_lnS g.1.1.cls idx y As.length) (hm : s_m 8 r) (hdg : decode g.1.2.1 pc = .ok (.invokestatic idx, 3))
    (kk : ∀ v n' sh' P' I', Qc v n' sh' P' I' → PW g n' sh' P' I' (uc + mc') (us + ms') (pc + 3) L (v.toList ++ r) Q) : PW g n sh P I uc us pc L (As.reverse ++ r) Q := by
  intro p l e R s m args below meth c H locs cells slots D dA ls Qf C hW hS hls hc hs hr
  have hB := pm_lB (mc' := mc') (ms' := ms') C hd hl.1
  obtain ⟨hx, hb, hrt, hml, hown, hts, hlk, hK, hin, ⟨r1, r2, r3, r4⟩, hbs, hX⟩ := id C
  obtain ⟨⟨l1, l2, l3, l4, l5⟩, l6⟩ := hl
  have hpre : PreS s H (pm_Pc g.2.2.2.2.2 n As sh P I D dA) As := ⟨pm_blind, fun U hU hWm => ⟨rfl, by rw [hU]; exact hW, hK.warm hWm⟩⟩
  have hkk : ∀ (v : Option Value) (n' : Nat) (sh' : pw_Sh) (P' : pw_P) (I' : pw_I) (H1 : Heap) (locs1 : List Loc), Qc v n' sh' P' I' → pw_Wd D dA g.2.2.2.2.2 n' sh' P' I' H1 → va_S (fun q => g.2.2.2.2.2 ≤ q) s.heap H1 locs1 → (v = none ∨ ∃ x : Int32, v = some (.int x)) → W p l e R s m args below meth c H1 locs1 (cells + mc') (slots + ms') Qf (F0 m (pc + 3) ls (v.toList ++ r)) :=
    fun v n' sh' P' I' H1 locs1 h1 h2 h3 _ => kk v n' sh' P' I' h1 p l e R s m args below meth c H1 locs1 _ _ D dA ls Qf C h2 h3 hls (by omega) (by omega) hr
  have hfit : cells + mc' ≤ R.cells ∧ slots + ms' ≤ R.slots := ⟨by omega, by omega⟩
  rcases l3 with l3 | ⟨host, l3⟩
  · exact pw_run (va_runS (As := As) (rest := r) (g := F0 m pc ls (As.reverse ++ r)) ⟨hx, hb, hml, hown, hts⟩ (hM l D dA) ⟨callB_of As.length hts (pw_goodT l1) rfl rfl rfl (hts _ l2) (hts _ l3) l4 hB, hts _ l6⟩ hpre rfl rfl hls.1 rfl (lv_room (s_m_of hm)) hdg hfit) hS hkk
  · exact pw_run (va_runSN (As := As) (rest := r) (g := F0 m pc ls (As.reverse ++ r)) ⟨hx, hb, hml, hown, hts⟩ (hM l D dA) ⟨va_cnB As.length hts (pw_goodT l1) rfl rfl rfl (hK.2.1 _ l3) (hts _ l2) l4 hB, hts _ l6, trivial⟩ hpre rfl rfl hls.1 rfl (lv_room (s_m_of hm)) hdg hfit) hS hkk
/-- a callee whose contract is at hand, which makes nothing -/
def pw_cal (g : pw_g) (n : Nat) (sh : pw_Sh) (P : pw_P) (Ms : Nat → pm_I) (a : Nat) (Ag : List Value) (I : pw_I) (K : Option Value → pw_I → Prop) : Prop :=
  ∃ d', d' < g.2.1 ∧ PM (Ms a) d' 0 0 g.2.2.2.2.2 Ag n sh P I (fun v n' sh' P' I' => n' = n ∧ sh' = sh ∧ P' = P ∧ K v I')
theorem int_ofInt_toInt {z : Int} (h1 : -2147483648 ≤ z) (h2 : z < 2147483648) : (Int32.ofInt z).toInt = z := Int32.toInt_ofInt_of_le h1 h2
theorem int_range (x : Int32) : -2147483648 ≤ x.toInt ∧ x.toInt < 2147483648 := ⟨Int32.le_toInt x, Int32.toInt_lt x⟩
theorem ps_lookup {ps : List (Int × Int)} {d : Int} {pc : Nat} {x : Int32} (hall : ps.all (fun q => decide (0 ≤ (pc : Int) + q.2 ∧ -2147483648 ≤ q.1 ∧ q.1 < 2147483648)) = true) {k : Nat → Prop} {a : Nat} (ha : (pc : Int) + d = (a : Int))
    (h : s_w (ps.map (fun q => (Int32.ofInt q.1, ((pc : Int) + q.2).toNat))) x a k) : ∃ t : Nat, (pc : Int) + Op.lookupswitch.offset ps d x.toInt = (t : Int) ∧ k t := by
  induction ps with
  | nil => exact ⟨a, ha, h⟩
  | cons q r ih =>
    rw [List.all_cons, Bool.and_eq_true, decide_eq_true_eq] at hall
    obtain ⟨⟨h0, h1, h2⟩, hall⟩ := hall
    obtain ⟨key, off⟩ := q
    have hkey : (Int32.ofInt key).toInt = key := int_ofInt_toInt h1 h2
    by_cases e : x = Int32.ofInt key
    · refine ⟨((pc : Int) + off).toNat, ?_, h.1 e⟩
      rw [Op.lookupswitch.offset_cons, if_pos (by rw [e, hkey])]
      exact (Int.toNat_of_nonneg h0).symm
    · obtain ⟨t, t1, t2⟩ := ih hall (h.2 e)
      refine ⟨t, ?_, t2⟩
      rw [lv_osw e hkey]
      exact t1
end PWD
end
section
/-! an instruction's condition is enough; and so is a whole stretch's (vc) -/
theorem ps_table {lo hi d : Int} {offs : Array Int} {pc a : Nat} {x : Int32} {k : Nat → Prop} (ha : (pc : Int) + d = (a : Int)) (hlo : -2147483648 ≤ lo) (hhi : hi < 2147483648) (hs : offs.size = (hi + 1 - lo).toNat)
    (hall : (List.range offs.size).all (fun (j : Nat) => decide (0 ≤ (pc : Int) + offs.getD j 0)) = true) (h : s_w ((List.range offs.size).map (fun (j : Nat) => (Int32.ofInt (lo + (j : Int)), ((pc : Int) + offs.getD j 0).toNat))) x a k) :
    ((x.toInt < lo ∨ hi < x.toInt) ∧ k a) ∨ (¬ x.toInt < lo ∧ ¬ hi < x.toInt ∧ ∃ (off : Int) (t : Nat), offs[(x.toInt - lo).toNat]? = some off ∧ (pc : Int) + off = (t : Int) ∧ k t) := by
  have hkey : ∀ j : Nat, j < offs.size → (Int32.ofInt (lo + (j : Int))).toInt = lo + (j : Int) := fun j hj => int_ofInt_toInt (by omega) (by omega)
  rcases s_w_of h with ⟨t, h1, h2, -⟩ | ⟨h1, h2⟩
  · refine Or.inr ?_
    obtain ⟨j, hj, hq⟩ := List.mem_map.mp h1
    have hj' := List.mem_range.mp hj
    cases hq
    have e := hkey j hj'
    rw [e]
    refine ⟨by omega, by omega, offs.getD j 0, _, ?_, ?_, h2⟩
    · rw [show (lo + (j : Int) - lo).toNat = j by omega]
      rw [Array.getD_eq_getD_getElem?, Array.getElem?_eq_getElem hj']
      rfl
    · have := List.all_eq_true.mp hall j hj
      rw [decide_eq_true_eq] at this
      exact (Int.toNat_of_nonneg this).symm
  · refine Or.inl ⟨?_, h2⟩
    by_cases e1 : x.toInt < lo
    · exact Or.inl e1
    · by_cases e2 : hi < x.toInt
      · exact Or.inr e2
      · exfalso
        have hj : (x.toInt - lo).toNat < offs.size := by omega
        refine h1 _ (List.mem_map.mpr ⟨(x.toInt - lo).toNat, List.mem_range.mpr hj, rfl⟩) ?_
        refine Int32.toInt_inj.mp ?_
        show (Int32.ofInt (lo + ((x.toInt - lo).toNat : Int))).toInt = _
        rw [hkey _ hj]
        omega
section PWX
variable {g : pw_g} {n : Nat} {sh : pw_Sh} {P : pw_P} {I : pw_I} {uc us pc : Nat} {L : List (Option Value)} {st : List Value} {Q : pw_Q}
set_option maxHeartbeats 4000000 in
theorem pw_sxs {Ms : Nat → pm_I} {C : pw_C} {K : pw_Kt} {i : Instr} {nx a b c : Nat} {v : Int32} {sw : List (Int32 × Nat)} (ok : pm_ok g.1 Ms pc (i, nx, a, b, c, v, sw)) (hu : uc ≤ g.2.2.1 ∧ us ≤ g.2.2.2.1)
    (hC : ∀ a Ag I K, C a Ag I K → pw_cal g n sh P Ms a Ag I K) (hK : ∀ pc' L' st' I', K pc' L' st' I' → PW g n sh P I' uc us pc' L' st' Q)
    (h : sx g.1.2.2.2 n sh P C Q i nx a b c v sw L st I K) : PW g n sh P I uc us pc L st Q := by
  by_cases hinv : ∃ x, i = .invokestatic x ∨ i = .invokevirtual x
  · obtain ⟨x, rfl | rfl⟩ := hinv
    · obtain ⟨hd, -, rfl, hl⟩ := ok
      rw [Nat.add_sub_cancel_left] at hd
      obtain ⟨As, r, h1, h2, h3, h4⟩ := s_a_of h
      rw [List.append_nil] at h4
      subst h2; subst h1
      obtain ⟨d', hd', hM⟩ := hC _ _ _ _ h4
      refine PW.callS hM hd' (by omega) (by omega) hl h3 hd fun v n' sh' P' I' hq => ?_
      obtain ⟨rfl, rfl, rfl, hq⟩ := hq
      exact hK _ _ _ _ hq
    · obtain ⟨hd, -, rfl, hl⟩ := ok
      rw [Nat.add_sub_cancel_left] at hd
      obtain ⟨As, r, h1, h2, h3⟩ := s_a_of h
      rw [List.append_nil] at h3
      obtain ⟨o, r', rfl, h4, h5, h6⟩ := s_r_of h3
      subst h2; subst h1
      obtain ⟨d', hd', hM⟩ := hC _ _ _ _ h6
      refine PW.callV hM hd' (by omega) (by omega) hl h4 h5 hd fun v n' sh' P' I' hq => ?_
      obtain ⟨rfl, rfl, rfl, hq⟩ := hq
      exact hK _ _ _ _ hq
  intro p l e R s m args below meth c0 H locs cells slots D dA ls Qf CC hW hS hls hc hs hr
  have hx := CC.1
  have hb := CC.2.1
  have hown := CC.2.2.2.2.1
  have hts := CC.2.2.2.2.2.1
  have hin : ∀ {a : Nat}, (sh a).1 ≤ 12 → g.2.2.2.2.2 ≤ a := fun q => (hW.2 _ q).1.1
  have go : ∀ {pc' : Nat} {L' : List (Option Value)} {st' : List Value} {I' : pw_I}, K pc' L' st' I' → ∀ {ls' : Array Slot} {H' : Heap} {locs' : List Loc}, pl_has ls' g.1.2.2.1 L' → pw_Wd D dA g.2.2.2.2.2 n sh P I' H' → va_S (fun q => g.2.2.2.2.2 ≤ q) s.heap H' locs' → W p l e R s m args below meth c0 H' locs' cells slots Qf (F0 m pc' ls' st') :=
    fun hk _ _ _ hl' hW' hS' => hK _ _ _ _ hk p l e R s m args below meth c0 _ _ cells slots D dA _ Qf CC hW' hS' hl' hc hs hr
  have hlen : L.length = g.1.2.2.1 := hls.2.1
  cases i <;> first | exact h.elim | exact absurd ⟨_, Or.inl rfl⟩ hinv | exact absurd ⟨_, Or.inr rfl⟩ hinv | skip
  case iconst x => obtain ⟨hd, -, rfl, hv⟩ := ok; rw [Nat.add_sub_cancel_left] at hd; exact lv_iconst hx hb hd hv (go h hls hW hS)
  case bipush x => obtain ⟨hd, -, rfl, hv⟩ := ok; rw [Nat.add_sub_cancel_left] at hd; exact lv_bipush hx hb hd hv (go h hls hW hS)
  case sipush x => obtain ⟨hd, -, rfl, hv⟩ := ok; rw [Nat.add_sub_cancel_left] at hd; exact lv_sipush hx hb hd hv (go h hls hW hS)
  case ldc x => obtain ⟨hd, -, rfl, hv⟩ := ok; rw [Nat.add_sub_cancel_left] at hd; exact lv_ldc hx hb hown (hts _ hv) hd (go h hls hW hS)
  case ldc_w x => obtain ⟨hd, -, rfl, hv⟩ := ok; rw [Nat.add_sub_cancel_left] at hd; exact lv_ldcw hx hb hown (hts _ hv) hd (go h hls hW hS)
  case iload_n j =>
    obtain ⟨hd, -, rfl⟩ := ok; rw [Nat.add_sub_cancel_left] at hd
    obtain ⟨w, h1, h⟩ := s_l_of h
    obtain ⟨x, r, e1, h⟩ := s_i_of h
    cases e1
    exact lv_iload_n hx hb hd rfl (hls.2.2.2 _ _ h1).1 (go h hls hW hS)
  case iload j =>
    obtain ⟨hd, -, rfl⟩ := ok; rw [Nat.add_sub_cancel_left] at hd
    obtain ⟨w, h1, h⟩ := s_l_of h
    obtain ⟨x, r, e1, h⟩ := s_i_of h
    cases e1
    exact lv_iload hx hb hd (hls.2.2.2 _ _ h1).1 (go h hls hW hS)
  case aload_n j =>
    obtain ⟨hd, -, rfl⟩ := ok; rw [Nat.add_sub_cancel_left] at hd
    obtain ⟨w, h1, h⟩ := s_l_of h
    obtain ⟨x, r, e1, h⟩ := s_r_of h
    cases e1
    exact lv_aload_n hx hb hd rfl (hls.2.2.2 _ _ h1).1 (go h hls hW hS)
  case aload j =>
    obtain ⟨hd, -, rfl⟩ := ok; rw [Nat.add_sub_cancel_left] at hd
    obtain ⟨w, h1, h⟩ := s_l_of h
    obtain ⟨x, r, e1, h⟩ := s_r_of h
    cases e1
    exact lv_aload hx hb hd (hls.2.2.2 _ _ h1).1 (go h hls hW hS)
  case istore_n j =>
    obtain ⟨hd, -, rfl⟩ := ok; rw [Nat.add_sub_cancel_left] at hd
    obtain ⟨x, r, rfl, h1, h⟩ := s_i_of h
    exact lv_istore_n hx hb hd rfl hls.lv (by omega) rfl fun ls' hl' => go h (hls.st rfl hl') hW hS
  case istore j =>
    obtain ⟨hd, -, rfl⟩ := ok; rw [Nat.add_sub_cancel_left] at hd
    obtain ⟨x, r, rfl, h1, h⟩ := s_i_of h
    exact lv_istore hx hb hd hls.lv (by omega) rfl fun ls' hl' => go h (hls.st rfl hl') hW hS
  case astore_n j =>
    obtain ⟨hd, -, rfl⟩ := ok; rw [Nat.add_sub_cancel_left] at hd
    obtain ⟨x, r, rfl, h1, h⟩ := s_r_of h
    exact lv_astore_n hx hb hd rfl hls.lv (by omega) rfl fun ls' hl' => go h (hls.st rfl hl') hW hS
  case astore j =>
    obtain ⟨hd, -, rfl⟩ := ok; rw [Nat.add_sub_cancel_left] at hd
    obtain ⟨x, r, rfl, h1, h⟩ := s_r_of h
    exact lv_astore hx hb hd hls.lv (by omega) rfl fun ls' hl' => go h (hls.st rfl hl') hW hS
  case iinc j z =>
    obtain ⟨hd, -, rfl, hv⟩ := ok; rw [Nat.add_sub_cancel_left] at hd
    obtain ⟨w, h1, h⟩ := s_l_of h
    obtain ⟨x, r, e1, h⟩ := s_i_of h
    cases e1
    have hj : j < L.length := (List.getElem?_eq_some_iff.mp h1).1
    obtain ⟨k, hk⟩ := List.getElem?_of_mem (pl_mem.mpr h1)
    exact lv_iinc hx hb hd hls.lv hk (by rw [hv]) (by omega) rfl fun ls' hl' => go h (hls.st rfl hl') hW hS
  case iadd => obtain ⟨hd, -, rfl⟩ := ok; rw [Nat.add_sub_cancel_left] at hd; obtain ⟨y, r, rfl, h⟩ := s_i_of h; obtain ⟨x, r, rfl, h⟩ := s_i_of h; exact lv_iadd hx hb hd (go h hls hW hS)
  case isub => obtain ⟨hd, -, rfl⟩ := ok; rw [Nat.add_sub_cancel_left] at hd; obtain ⟨y, r, rfl, h⟩ := s_i_of h; obtain ⟨x, r, rfl, h⟩ := s_i_of h; exact lv_isub hx hb hd (go h hls hW hS)
  case imul => obtain ⟨hd, -, rfl⟩ := ok; rw [Nat.add_sub_cancel_left] at hd; obtain ⟨y, r, rfl, h⟩ := s_i_of h; obtain ⟨x, r, rfl, h⟩ := s_i_of h; exact lv_imul hx hb hd (go h hls hW hS)
  case iand => obtain ⟨hd, -, rfl⟩ := ok; rw [Nat.add_sub_cancel_left] at hd; obtain ⟨y, r, rfl, h⟩ := s_i_of h; obtain ⟨x, r, rfl, h⟩ := s_i_of h; exact lv_iand hx hb hd (go h hls hW hS)
  case ior => obtain ⟨hd, -, rfl⟩ := ok; rw [Nat.add_sub_cancel_left] at hd; obtain ⟨y, r, rfl, h⟩ := s_i_of h; obtain ⟨x, r, rfl, h⟩ := s_i_of h; exact lv_ior hx hb hd (go h hls hW hS)
  case ixor => obtain ⟨hd, -, rfl⟩ := ok; rw [Nat.add_sub_cancel_left] at hd; obtain ⟨y, r, rfl, h⟩ := s_i_of h; obtain ⟨x, r, rfl, h⟩ := s_i_of h; exact lv_ixor hx hb hd (go h hls hW hS)
  case idiv => obtain ⟨hd, -, rfl⟩ := ok; rw [Nat.add_sub_cancel_left] at hd; obtain ⟨y, r, rfl, h⟩ := s_i_of h; obtain ⟨x, r, rfl, h0, h⟩ := s_i_of h; exact lv_idiv hx hb hd h0 (go h hls hW hS)
  case irem => obtain ⟨hd, -, rfl⟩ := ok; rw [Nat.add_sub_cancel_left] at hd; obtain ⟨y, r, rfl, h⟩ := s_i_of h; obtain ⟨x, r, rfl, h0, h⟩ := s_i_of h; exact lv_irem hx hb hd h0 (go h hls hW hS)
  case ishl => obtain ⟨hd, -, rfl⟩ := ok; rw [Nat.add_sub_cancel_left] at hd; obtain ⟨y, r, rfl, h⟩ := s_i_of h; obtain ⟨x, r, rfl, h⟩ := s_i_of h; exact lv_ishl hx hb hd (go h hls hW hS)
  case ishr => obtain ⟨hd, -, rfl⟩ := ok; rw [Nat.add_sub_cancel_left] at hd; obtain ⟨y, r, rfl, h⟩ := s_i_of h; obtain ⟨x, r, rfl, h⟩ := s_i_of h; exact lv_ishr hx hb hd (go h hls hW hS)
  case iushr => obtain ⟨hd, -, rfl⟩ := ok; rw [Nat.add_sub_cancel_left] at hd; obtain ⟨y, r, rfl, h⟩ := s_i_of h; obtain ⟨x, r, rfl, h⟩ := s_i_of h; exact lv_iushr hx hb hd rfl (go h hls hW hS)
  case i2c => obtain ⟨hd, -, rfl⟩ := ok; rw [Nat.add_sub_cancel_left] at hd; obtain ⟨x, r, rfl, h⟩ := s_i_of h; exact lv_i2c hx hb hd rfl (go h hls hW hS)
  case dup => obtain ⟨hd, -, rfl⟩ := ok; rw [Nat.add_sub_cancel_left] at hd; have h : s_v st fun x r => K (pc + 1) L (x :: x :: r) I := h; obtain ⟨x, r, rfl, h1, h⟩ := s_v_of h; exact lv_dup hx hb hd h1 (go h hls hW hS)
  case dup2 => obtain ⟨hd, -, rfl⟩ := ok; rw [Nat.add_sub_cancel_left] at hd; have h : s_v st fun x r => s_v r fun y r => K (pc + 1) L (x :: y :: x :: y :: r) I := h; obtain ⟨x, r, rfl, h1, h⟩ := s_v_of h; obtain ⟨y, r, rfl, h2, h⟩ := s_v_of h; exact lv_dup2_11 hx hb hd h1 h2 (go h hls hW hS)
  case pop => obtain ⟨hd, -, rfl⟩ := ok; rw [Nat.add_sub_cancel_left] at hd; have h : s_v st fun _ r => K (pc + 1) L r I := h; obtain ⟨x, r, rfl, h1, h⟩ := s_v_of h; exact lv_pop hx hb hd h1 (go h hls hW hS)
  case goto off => obtain ⟨hd, -, rfl, ht⟩ := ok; rw [Nat.add_sub_cancel_left] at hd; exact lv_goto hx hb hd ht (go h hls hW hS)
  case ifCond cd off =>
    obtain ⟨hd, -, rfl, ht⟩ := ok; rw [Nat.add_sub_cancel_left] at hd
    obtain ⟨x, r, rfl, h⟩ := s_i_of h
    cases cd
    · exact lv_if_eq hx hb hd ht (fun q => go (h.1 q) hls hW hS) (fun q => go (h.2 q) hls hW hS)
    · exact lv_if_ne hx hb hd ht (fun q => go (h.1 q) hls hW hS) (fun q => go (h.2 q) hls hW hS)
    · exact lv_if_lt hx hb hd ht (fun q => go (h.1 q) hls hW hS) (fun q => go (h.2 q) hls hW hS)
    · exact lv_if_ge hx hb hd ht (fun q => go (h.1 q) hls hW hS) (fun q => go (h.2 q) hls hW hS)
    · exact lv_if_gt hx hb hd ht (fun q => go (h.1 q) hls hW hS) (fun q => go (h.2 q) hls hW hS)
    · exact lv_if_le hx hb hd ht (fun q => go (h.1 q) hls hW hS) (fun q => go (h.2 q) hls hW hS)
  case if_icmp cd off =>
    obtain ⟨hd, -, rfl, ht⟩ := ok; rw [Nat.add_sub_cancel_left] at hd
    obtain ⟨y, r, rfl, h⟩ := s_i_of h
    obtain ⟨x, r, rfl, h⟩ := s_i_of h
    cases cd
    · exact lv_icmp_eq hx hb hd ht (fun q => go (h.1 q) hls hW hS) (fun q => go (h.2 q) hls hW hS)
    · exact lv_icmp_ne hx hb hd ht (fun q => go (h.1 q) hls hW hS) (fun q => go (h.2 q) hls hW hS)
    · exact lv_icmp_lt hx hb hd ht (fun q => go (h.1 q) hls hW hS) (fun q => go (h.2 q) hls hW hS)
    · exact lv_icmp_ge hx hb hd ht (fun q => go (h.1 q) hls hW hS) (fun q => go (h.2 q) hls hW hS)
    · exact lv_icmp_gt hx hb hd ht (fun q => go (h.1 q) hls hW hS) (fun q => go (h.2 q) hls hW hS)
    · exact lv_icmp_le hx hb hd ht (fun q => go (h.1 q) hls hW hS) (fun q => go (h.2 q) hls hW hS)
  case tableswitch d lo hi offs =>
    obtain ⟨hd, -, ht, h1, h2, h3, h4, h5⟩ := ok
    obtain ⟨x, r, rfl, h⟩ := s_i_of h
    subst h4
    rcases ps_table ht h1 h2 h3 h5 h with ⟨q1, q2⟩ | ⟨q1, q2, off, t, q3, q4, q5⟩
    · exact lv_tableOut hx hb hd q1 ht (go q2 hls hW hS)
    · exact lv_tableIn hx hb hd q1 q2 q3 q4 (go q5 hls hW hS)
  case lookupswitch d ps =>
    obtain ⟨hd, -, ht, h1, h2, h3⟩ := ok
    obtain ⟨x, r, rfl, h⟩ := s_i_of h
    subst h2
    obtain ⟨t, q1, q2⟩ := ps_lookup h3 ht h
    exact lv_lookup hx hb hd h1 rfl q1 (go q2 hls hW hS)
  case getfield x =>
    obtain ⟨hd, -, rfl, h1, h2, h3, h4, h5⟩ := ok; rw [Nat.add_sub_cancel_left] at hd
    obtain ⟨o, r, rfl, h6, h⟩ := s_r_of h
    refine pw_getf CC hW h1 h2 h3 h6 h4 hd (go ?_ hls hW hS)
    unfold pw_val
    rw [h5]
    cases sw <;> exact h
  case putfield x =>
    obtain ⟨hd, -, rfl, h1, h2, h3, h4, h5, h6, h7⟩ := ok; rw [Nat.add_sub_cancel_left] at hd
    obtain ⟨z, r, rfl, h⟩ := s_i_of h
    obtain ⟨o, r, rfl, h8, h9, h⟩ := s_r_of h
    have hnf : narrow (pw_ty a b) (.int z) = .int z ∧ fits (pw_ty a b) (.int z) = true := by
      cases sw with
      | nil => rw [h7]; exact ⟨rfl, rfl⟩
      | cons q r => rw [h7]; rcases h9 with rfl | rfl <;> exact ⟨rfl, rfl⟩
    refine pw_putf CC hW hS (P' := P) (I' := pw_up I o b z) (hin (by omega)) h1 h2 h3 h8 h4 (Or.inl h6) hnf.1 hnf.2 (fun _ _ _ => rfl) (fun q hq k => pw_up_a hq) (fun j hj => ?_) hd (fun H1 locs1 hW1 hS1 => go h hls hW1 hS1)
    unfold pw_val
    by_cases e : j = b
    · subst e
      rw [h5, if_pos rfl]
      simp [pw_up]
    · rw [if_neg e]
      rw [pw_up_k e]
  case iaload => obtain ⟨hd, -, rfl⟩ := ok; rw [Nat.add_sub_cancel_left] at hd; obtain ⟨y, r, rfl, h⟩ := s_i_of h; obtain ⟨o, r, rfl, h1, h2, h⟩ := s_r_of h; exact pw_iald CC hW h1 h2 hd (go h hls hW hS)
  case caload => obtain ⟨hd, -, rfl⟩ := ok; rw [Nat.add_sub_cancel_left] at hd; obtain ⟨y, r, rfl, h⟩ := s_i_of h; obtain ⟨o, r, rfl, h1, h2, h⟩ := s_r_of h; exact pw_cald CC hW h1 h2 hd (go h hls hW hS)
  case aaload => obtain ⟨hd, -, rfl⟩ := ok; rw [Nat.add_sub_cancel_left] at hd; obtain ⟨y, r, rfl, h⟩ := s_i_of h; obtain ⟨o, r, rfl, h1, h2, h⟩ := s_r_of h; exact pw_aald CC hW h1 h2 hd (go h hls hW hS)
  case iastore => obtain ⟨hd, -, rfl⟩ := ok; rw [Nat.add_sub_cancel_left] at hd; obtain ⟨x, r, rfl, h⟩ := s_i_of h; obtain ⟨y, r, rfl, h⟩ := s_i_of h; obtain ⟨o, r, rfl, h1, h2, h⟩ := s_r_of h; exact pw_iast CC hW hS (hin (by omega)) h1 h2 hd (fun H1 locs1 hW1 hS1 => go h hls hW1 hS1)
  case castore =>
    obtain ⟨hd, -, rfl⟩ := ok; rw [Nat.add_sub_cancel_left] at hd; obtain ⟨x, r, rfl, h⟩ := s_i_of h; obtain ⟨y, r, rfl, h⟩ := s_i_of h; obtain ⟨o, r, rfl, h1, h2, h3, h⟩ := s_r_of h
    obtain ⟨ty, e1, e2⟩ := pw_nok_narrow h3
    cases e1
    exact pw_cast CC hW hS (hin (by omega)) h1 h2 e2 hd (fun H1 locs1 hW1 hS1 => go h hls hW1 hS1)
  case arraylength => obtain ⟨hd, -, rfl⟩ := ok; rw [Nat.add_sub_cancel_left] at hd; obtain ⟨o, r, rfl, h1, h⟩ := s_r_of h; exact pw_alen CC hW h1 hd (go h hls hW hS)
  case ireturn =>
    obtain ⟨hd, -, rfl⟩ := ok; rw [Nat.add_sub_cancel_left] at hd; obtain ⟨x, r, rfl, rfl, h1, h⟩ := s_i_of h
    exact hr (some (.int x)) n sh P I pc ls H locs cells slots h hW hS (by omega) (by omega) ⟨hd, x, rfl, h1⟩
  case return_ =>
    obtain ⟨hd, -, rfl⟩ := ok; rw [Nat.add_sub_cancel_left] at hd; obtain ⟨rfl, h1, h⟩ := h
    exact hr none n sh P I pc ls H locs cells slots h hW hS (by omega) (by omega) ⟨hd, h1⟩
def vc (g : pw_g) (n : Nat) (sh : pw_Sh) (P : pw_P) (uc us : Nat) (tb : Nat → pm_E) (C : pw_C) (stop : Nat → Bool) (Q : pw_Q) : Nat → pw_Kt
  | 0 => fun pc L st I => PW g n sh P I uc us pc L st Q
  | k + 1 => fun pc L st I => match tb pc with
    | (i, nx, a, b, c, v, sw) => sx g.1.2.2.2 n sh P C Q i nx a b c v sw L st I (fun pc' L' st' I' => bif stop pc' then PW g n sh P I' uc us pc' L' st' Q else vc g n sh P uc us tb C stop Q k pc' L' st' I')
theorem pw_vcs {Ms : Nat → pm_I} {C : pw_C} {tb : Nat → pm_E} (hu : uc ≤ g.2.2.1 ∧ us ≤ g.2.2.2.1) (hC : ∀ a Ag I K, C a Ag I K → pw_cal g n sh P Ms a Ag I K) (ok : ∀ pc, (tb pc).1 = .nop ∨ pm_ok g.1 Ms pc (tb pc)) (stop : Nat → Bool) :
    ∀ (k : Nat) {pc : Nat} {L : List (Option Value)} {st : List Value} {I : pw_I}, vc g n sh P uc us tb C stop Q k pc L st I → PW g n sh P I uc us pc L st Q := by
  intro k
  induction k with
  | zero => exact fun h => h
  | succ k ih =>
    intro pc L st I h
    have hok := ok pc
    simp only [vc] at h
    generalize hq : tb pc = q at h hok
    obtain ⟨i, nx, a, b, c, v, sw⟩ := q
    rcases hok with hok | hok
    · dsimp only at hok
      subst hok
      exact h.elim
    · refine pw_sxs hok hu hC (fun pc' L' st' I' hk => ?_) h
      cases hst : stop pc' with
      | true => rw [hst] at hk; exact hk
      | false => rw [hst] at hk; exact ih hk
end PWX
end
section
/-! the code tables of all methods, by program out of the printed decode rows and words; each is checked against the bytes in the kernel -/
def mX0_init : pm_I := (yX0_init, cX0_init, 2, none)
def mX0_copyFrom : pm_I := (yX0_copyFrom, cX0_copyFrom, 3, none)
def mX0_hasNode : pm_I := (yX0_hasNode, cX0_hasNode, 2, (some .boolean))
def mX0_hasLine : pm_I := (yX0_hasLine, cX0_hasLine, 2, (some .boolean))
def mX0_addNode : pm_I := (yX0_addNode, cX0_addNode, 6, (some .int))
def mX0_addLine : pm_I := (yX0_addLine, cX0_addLine, 7, (some .int))
def mX0_setLineMask : pm_I := (yX0_setLineMask, cX0_setLineMask, 3, (some .int))
def mX0_setNodeMask : pm_I := (yX0_setNodeMask, cX0_setNodeMask, 3, (some .int))
def mX0_setThreshold : pm_I := (yX0_setThreshold, cX0_setThreshold, 3, (some .int))
def mX0_setLate : pm_I := (yX0_setLate, cX0_setLate, 3, (some .int))
def mX0_giveEdge : pm_I := (yX0_giveEdge, cX0_giveEdge, 3, (some .int))
def mX0_setLevel : pm_I := (yX0_setLevel, cX0_setLevel, 4, (some .int))
def mX0_takeNext : pm_I := (yX0_takeNext, cX0_takeNext, 3, (some .int))
def mX0_endService : pm_I := (yX0_endService, cX0_endService, 2, (some .int))
def mX0_passTicks : pm_I := (yX0_passTicks, cX0_passTicks, 2, (some .int))
def mX0_queueAcknowledge : pm_I := (yX0_queueAcknowledge, cX0_queueAcknowledge, 6, none)
def mX0_acknowledgeDue : pm_I := (yX0_acknowledgeDue, cX0_acknowledgeDue, 4, (some .int))
def mX0_turnInputs : pm_I := (yX0_turnInputs, cX0_turnInputs, 5, none)
def mX0_nextLine : pm_I := (yX0_nextLine, cX0_nextLine, 6, (some .int))
def mX0_passOver : pm_I := (yX0_passOver, cX0_passOver, 2, none)
def mX0_lowestRank : pm_I := (yX0_lowestRank, cX0_lowestRank, 2, (some .int))
def mX0_isReady : pm_I := (yX0_isReady, cX0_isReady, 4, (some .boolean))
def mX0_isMasked : pm_I := (yX0_isMasked, cX0_isMasked, 3, (some .boolean))
def mX0_litSet : pm_I := (yX0_litSet, cX0_litSet, 3, (some .int))
def mX0_readySet : pm_I := (yX0_readySet, cX0_readySet, 4, (some .int))
def mX0_stageSet : pm_I := (yX0_stageSet, cX0_stageSet, 4, (some .int))
def mX0_ownMaskSet : pm_I := (yX0_ownMaskSet, cX0_ownMaskSet, 3, (some .int))
def mX0_anyMaskSet : pm_I := (yX0_anyMaskSet, cX0_anyMaskSet, 3, (some .int))
def mX0_linesBelow : pm_I := (yX0_linesBelow, cX0_linesBelow, 4, (some .int))
def mX0_edgeLineSet : pm_I := (yX0_edgeLineSet, cX0_edgeLineSet, 3, (some .int))
def mX0_tellLine : pm_I := (yX0_tellLine, cX0_tellLine, 4, (some .int))
def mX0_tellNode : pm_I := (yX0_tellNode, cX0_tellNode, 4, (some .int))
def mX0_tellInput : pm_I := (yX0_tellInput, cX0_tellInput, 4, (some .int))
def mX0_tellService : pm_I := (yX0_tellService, cX0_tellService, 3, (some .int))
def mX0_tellWaiting : pm_I := (yX0_tellWaiting, cX0_tellWaiting, 3, (some .int))
def mX0_tellNumber : pm_I := (yX0_tellNumber, cX0_tellNumber, 2, (some .int))
def mX0_allEdges : pm_I := (yX0_allEdges, cX0_allEdges, 3, (some .int))
def mX0_allLost : pm_I := (yX0_allLost, cX0_allLost, 3, (some .int))
def mX0_allTaken : pm_I := (yX0_allTaken, cX0_allTaken, 4, (some .int))
def mX1_init : pm_I := (yX1_init, cX1_init, 1, none)
def mX1_append : pm_I := (yX1_append, cX1_append, 2, (some .int))
def mX1_makeEmpty : pm_I := (yX1_makeEmpty, cX1_makeEmpty, 2, (some .int))
def mX1_runOn : pm_I := (yX1_runOn, cX1_runOn, 4, (some .int))
def mX1_answerOf : pm_I := (yX1_answerOf, cX1_answerOf, 2, (some .int))
def mX1_reasonOf : pm_I := (yX1_reasonOf, cX1_reasonOf, 1, (some .int))
def mX1_readEvent : pm_I := (yX1_readEvent, cX1_readEvent, 1, (some .boolean))
def mX1_readNumber : pm_I := (yX1_readNumber, cX1_readNumber, 3, (some .int))
def mX1_readSign : pm_I := (yX1_readSign, cX1_readSign, 3, (some .boolean))
def mX1_digitAt : pm_I := (yX1_digitAt, cX1_digitAt, 3, (some .int))
def mX1_signAt : pm_I := (yX1_signAt, cX1_signAt, 2, (some .char))
def mX2_init : pm_I := (yX2_init, cX2_init, 2, none)
def mX2_prepare : pm_I := (yX2_prepare, cX2_prepare, 2, none)
def mX2_close : pm_I := (yX2_close, cX2_close, 2, (some .int))
def mX2_restore : pm_I := (yX2_restore, cX2_restore, 2, (some .int))
def mX2_dropOldest : pm_I := (yX2_dropOldest, cX2_dropOldest, 3, none)
def mX3_init : pm_I := (yX3_init, cX3_init, 1, none)
def mX3_copyFrom : pm_I := (yX3_copyFrom, cX3_copyFrom, 2, none)
def mX4_init : pm_I := (yX4_init, cX4_init, 1, none)
def mX4_copyFrom : pm_I := (yX4_copyFrom, cX4_copyFrom, 2, none)
def mX5_init : pm_I := (yX5_init, cX5_init, 1, none)
def mX5_get : pm_I := (yX5_get, cX5_get, 2, (some .int))
def mX5_insert : pm_I := (yX5_insert, cX5_insert, 4, none)
def mX5_remove : pm_I := (yX5_remove, cX5_remove, 3, none)
def mX5_moveBehind : pm_I := (yX5_moveBehind, cX5_moveBehind, 3, none)
def mX5_copyFrom : pm_I := (yX5_copyFrom, cX5_copyFrom, 2, none)
def mX6_init : pm_I := (yX6_init, cX6_init, 1, none)
def mX6_node : pm_I := (yX6_node, cX6_node, 3, (some .int))
def mX6_line : pm_I := (yX6_line, cX6_line, 4, (some .int))
def mX6_mask : pm_I := (yX6_mask, cX6_mask, 3, (some .int))
def mX6_maskNode : pm_I := (yX6_maskNode, cX6_maskNode, 3, (some .int))
def mX6_threshold : pm_I := (yX6_threshold, cX6_threshold, 2, (some .int))
def mX6_late : pm_I := (yX6_late, cX6_late, 2, (some .int))
def mX6_lineOf : pm_I := (yX6_lineOf, cX6_lineOf, 3, (some .int))
def mX6_nodeOf : pm_I := (yX6_nodeOf, cX6_nodeOf, 3, (some .int))
def mX6_inputAt : pm_I := (yX6_inputAt, cX6_inputAt, 3, (some .int))
def mX6_edge : pm_I := (yX6_edge, cX6_edge, 2, (some .int))
def mX6_level : pm_I := (yX6_level, cX6_level, 3, (some .int))
def mX6_take : pm_I := (yX6_take, cX6_take, 1, (some .int))
def mX6_done : pm_I := (yX6_done, cX6_done, 1, (some .int))
def mX6_tick : pm_I := (yX6_tick, cX6_tick, 2, (some .int))
def mX6_next : pm_I := (yX6_next, cX6_next, 2, (some .int))
def mX6_orderAt : pm_I := (yX6_orderAt, cX6_orderAt, 3, (some .int))
def mX6_serviceAt : pm_I := (yX6_serviceAt, cX6_serviceAt, 2, (some .int))
def mX6_waitingAt : pm_I := (yX6_waitingAt, cX6_waitingAt, 2, (some .int))
def mX6_lines : pm_I := (yX6_lines, cX6_lines, 2, (some .int))
def mX6_count : pm_I := (yX6_count, cX6_count, 2, (some .int))
def mX6_undo : pm_I := (yX6_undo, cX6_undo, 1, (some .int))
def mX6_type : pm_I := (yX6_type, cX6_type, 2, (some .int))
def mX6_clearText : pm_I := (yX6_clearText, cX6_clearText, 1, (some .int))
def mX6_fault : pm_I := (yX6_fault, cX6_fault, 2, (some .int))
def mX6_play : pm_I := (yX6_play, cX6_play, 2, (some .int))
def mX6_isBit : pm_I := (yX6_isBit, cX6_isBit, 1, (some .boolean))
def mX6_asBit : pm_I := (yX6_asBit, cX6_asBit, 1, (some .int))
def mX7_init : pm_I := (yX7_init, cX7_init, 1, none)
def mX7_in : pm_I := (yX7_in, cX7_in, 3, (some .boolean))
def mX7_record : pm_I := (yX7_record, cX7_record, 2, none)
def mX7_layAside : pm_I := (yX7_layAside, cX7_layAside, 2, none)
def mX7_layBack : pm_I := (yX7_layBack, cX7_layBack, 2, none)
def mX7_n : pm_I := (yX7_n, cX7_n, 1, (some .int))
def mX7_l : pm_I := (yX7_l, cX7_l, 1, (some .int))
def mX7_isNode : pm_I := (yX7_isNode, cX7_isNode, 2, (some .boolean))
def mX7_isLine : pm_I := (yX7_isLine, cX7_isLine, 2, (some .boolean))
def mX7_isBit : pm_I := (yX7_isBit, cX7_isBit, 1, (some .boolean))
def mX7_hang : pm_I := (yX7_hang, cX7_hang, 3, none)
def mX7_node : pm_I := (yX7_node, cX7_node, 4, (some .int))
def mX7_line : pm_I := (yX7_line, cX7_line, 5, (some .int))
def mX7_isOnWay : pm_I := (yX7_isOnWay, cX7_isOnWay, 4, (some .boolean))
def mX7_linesBy : pm_I := (yX7_linesBy, cX7_linesBy, 4, (some .int))
def mX7_bits : pm_I := (yX7_bits, cX7_bits, 3, (some .int))
def mX7_mask : pm_I := (yX7_mask, cX7_mask, 3, (some .int))
def mX7_maskNode : pm_I := (yX7_maskNode, cX7_maskNode, 3, (some .int))
def mX7_threshold : pm_I := (yX7_threshold, cX7_threshold, 3, (some .int))
def mX7_late : pm_I := (yX7_late, cX7_late, 3, (some .int))
def mX7_isHidden : pm_I := (yX7_isHidden, cX7_isHidden, 4, (some .boolean))
def mX7_isReady : pm_I := (yX7_isReady, cX7_isReady, 4, (some .boolean))
def mX7_layOrder : pm_I := (yX7_layOrder, cX7_layOrder, 6, none)
def mX7_nextLine : pm_I := (yX7_nextLine, cX7_nextLine, 4, (some .int))
def mX7_turnBehind : pm_I := (yX7_turnBehind, cX7_turnBehind, 5, none)
def mX7_turnWay : pm_I := (yX7_turnWay, cX7_turnWay, 4, none)
def mX7_goTake : pm_I := (yX7_goTake, cX7_goTake, 4, none)
def mX7_goDone : pm_I := (yX7_goDone, cX7_goDone, 2, (some .int))
def mX7_litState : pm_I := (yX7_litState, cX7_litState, 4, (some .int))
def mX7_lineOf : pm_I := (yX7_lineOf, cX7_lineOf, 3, (some .int))
def mX7_nodeOf : pm_I := (yX7_nodeOf, cX7_nodeOf, 3, (some .int))
def mX7_inputAt : pm_I := (yX7_inputAt, cX7_inputAt, 3, (some .int))
def mX7_goEdge : pm_I := (yX7_goEdge, cX7_goEdge, 3, (some .int))
def mX7_edge : pm_I := (yX7_edge, cX7_edge, 2, (some .int))
def mX7_canLevel : pm_I := (yX7_canLevel, cX7_canLevel, 3, (some .boolean))
def mX7_level : pm_I := (yX7_level, cX7_level, 3, (some .int))
def mX7_take : pm_I := (yX7_take, cX7_take, 2, (some .int))
def mX7_done : pm_I := (yX7_done, cX7_done, 1, (some .int))
def mX7_goTicks : pm_I := (yX7_goTicks, cX7_goTicks, 5, (some .int))
def mX7_tick : pm_I := (yX7_tick, cX7_tick, 2, (some .int))
def mX7_next : pm_I := (yX7_next, cX7_next, 2, (some .int))
def mX7_orderAt : pm_I := (yX7_orderAt, cX7_orderAt, 4, (some .int))
def mX7_serviceAt : pm_I := (yX7_serviceAt, cX7_serviceAt, 2, (some .int))
def mX7_isAhead : pm_I := (yX7_isAhead, cX7_isAhead, 4, (some .boolean))
def mX7_waitingAt : pm_I := (yX7_waitingAt, cX7_waitingAt, 5, (some .int))
def mX7_isOf : pm_I := (yX7_isOf, cX7_isOf, 3, (some .boolean))
def mX7_linesOf : pm_I := (yX7_linesOf, cX7_linesOf, 4, (some .int))
def mX7_lines : pm_I := (yX7_lines, cX7_lines, 2, (some .int))
def mX7_litEdges : pm_I := (yX7_litEdges, cX7_litEdges, 3, (some .int))
def mX7_count : pm_I := (yX7_count, cX7_count, 2, (some .int))
def mX7_undo : pm_I := (yX7_undo, cX7_undo, 2, (some .int))
def mX7_type : pm_I := (yX7_type, cX7_type, 2, (some .int))
def mX7_clearText : pm_I := (yX7_clearText, cX7_clearText, 2, (some .int))
def mX7_sees : pm_I := (yX7_sees, cX7_sees, 3, (some .boolean))
def mX7_number : pm_I := (yX7_number, cX7_number, 3, (some .int))
def mX7_isForm : pm_I := (yX7_isForm, cX7_isForm, 3, (some .boolean))
def mX7_isRange : pm_I := (yX7_isRange, cX7_isRange, 2, (some .boolean))
def mX7_isPossible : pm_I := (yX7_isPossible, cX7_isPossible, 2, (some .boolean))
def mX7_goEvent : pm_I := (yX7_goEvent, cX7_goEvent, 2, none)
def mX7_isSign : pm_I := (yX7_isSign, cX7_isSign, 1, (some .boolean))
def mX7_run : pm_I := (yX7_run, cX7_run, 3, (some .int))
def mX7_fault : pm_I := (yX7_fault, cX7_fault, 3, (some .int))
def mX7_play : pm_I := (yX7_play, cX7_play, 2, (some .int))
def mJ6_bitCount_0f7a4 : pm_I := (yJ6_bitCount_0f7a4, cJ6_bitCount_0f7a4, 1, (some .int))
def mJ9_max_7cf53 : pm_I := (yJ9_max_7cf53, cJ9_max_7cf53, 2, (some .int))
def mL_law : pm_I := (yL_law, cL_law, 4, (some .boolean))
def pw_Ms : Nat → pm_I := fun a => match a with
  | 0 => mX0_init
  | 1 => mX0_copyFrom
  | 2 => mX0_hasNode
  | 3 => mX0_hasLine
  | 4 => mX0_addNode
  | 5 => mX0_addLine
  | 6 => mX0_setLineMask
  | 7 => mX0_setNodeMask
  | 8 => mX0_setThreshold
  | 9 => mX0_setLate
  | 10 => mX0_giveEdge
  | 11 => mX0_setLevel
  | 12 => mX0_takeNext
  | 13 => mX0_endService
  | 14 => mX0_passTicks
  | 15 => mX0_queueAcknowledge
  | 16 => mX0_acknowledgeDue
  | 17 => mX0_turnInputs
  | 18 => mX0_nextLine
  | 19 => mX0_passOver
  | 20 => mX0_lowestRank
  | 21 => mX0_isReady
  | 22 => mX0_isMasked
  | 23 => mX0_litSet
  | 24 => mX0_readySet
  | 25 => mX0_stageSet
  | 26 => mX0_ownMaskSet
  | 27 => mX0_anyMaskSet
  | 28 => mX0_linesBelow
  | 29 => mX0_edgeLineSet
  | 30 => mX0_tellLine
  | 31 => mX0_tellNode
  | 32 => mX0_tellInput
  | 33 => mX0_tellService
  | 34 => mX0_tellWaiting
  | 35 => mX0_tellNumber
  | 36 => mX0_allEdges
  | 37 => mX0_allLost
  | 38 => mX0_allTaken
  | 39 => mX1_init
  | 40 => mX1_append
  | 41 => mX1_makeEmpty
  | 42 => mX1_runOn
  | 43 => mX1_answerOf
  | 44 => mX1_reasonOf
  | 45 => mX1_readEvent
  | 46 => mX1_readNumber
  | 47 => mX1_readSign
  | 48 => mX1_digitAt
  | 49 => mX1_signAt
  | 50 => mX2_init
  | 51 => mX2_prepare
  | 52 => mX2_close
  | 53 => mX2_restore
  | 54 => mX2_dropOldest
  | 55 => mX3_init
  | 56 => mX3_copyFrom
  | 57 => mX4_init
  | 58 => mX4_copyFrom
  | 59 => mX5_init
  | 60 => mX5_get
  | 61 => mX5_insert
  | 62 => mX5_remove
  | 63 => mX5_moveBehind
  | 64 => mX5_copyFrom
  | 65 => mX6_init
  | 66 => mX6_node
  | 67 => mX6_line
  | 68 => mX6_mask
  | 69 => mX6_maskNode
  | 70 => mX6_threshold
  | 71 => mX6_late
  | 72 => mX6_lineOf
  | 73 => mX6_nodeOf
  | 74 => mX6_inputAt
  | 75 => mX6_edge
  | 76 => mX6_level
  | 77 => mX6_take
  | 78 => mX6_done
  | 79 => mX6_tick
  | 80 => mX6_next
  | 81 => mX6_orderAt
  | 82 => mX6_serviceAt
  | 83 => mX6_waitingAt
  | 84 => mX6_lines
  | 85 => mX6_count
  | 86 => mX6_undo
  | 87 => mX6_type
  | 88 => mX6_clearText
  | 89 => mX6_fault
  | 90 => mX6_play
  | 91 => mX6_isBit
  | 92 => mX6_asBit
  | 93 => mX7_init
  | 94 => mX7_in
  | 95 => mX7_record
  | 96 => mX7_layAside
  | 97 => mX7_layBack
  | 98 => mX7_n
  | 99 => mX7_l
  | 100 => mX7_isNode
  | 101 => mX7_isLine
  | 102 => mX7_isBit
  | 103 => mX7_hang
  | 104 => mX7_node
  | 105 => mX7_line
  | 106 => mX7_isOnWay
  | 107 => mX7_linesBy
  | 108 => mX7_bits
  | 109 => mX7_mask
  | 110 => mX7_maskNode
  | 111 => mX7_threshold
  | 112 => mX7_late
  | 113 => mX7_isHidden
  | 114 => mX7_isReady
  | 115 => mX7_layOrder
  | 116 => mX7_nextLine
  | 117 => mX7_turnBehind
  | 118 => mX7_turnWay
  | 119 => mX7_goTake
  | 120 => mX7_goDone
  | 121 => mX7_litState
  | 122 => mX7_lineOf
  | 123 => mX7_nodeOf
  | 124 => mX7_inputAt
  | 125 => mX7_goEdge
  | 126 => mX7_edge
  | 127 => mX7_canLevel
  | 128 => mX7_level
  | 129 => mX7_take
  | 130 => mX7_done
  | 131 => mX7_goTicks
  | 132 => mX7_tick
  | 133 => mX7_next
  | 134 => mX7_orderAt
  | 135 => mX7_serviceAt
  | 136 => mX7_isAhead
  | 137 => mX7_waitingAt
  | 138 => mX7_isOf
  | 139 => mX7_linesOf
  | 140 => mX7_lines
  | 141 => mX7_litEdges
  | 142 => mX7_count
  | 143 => mX7_undo
  | 144 => mX7_type
  | 145 => mX7_clearText
  | 146 => mX7_sees
  | 147 => mX7_number
  | 148 => mX7_isForm
  | 149 => mX7_isRange
  | 150 => mX7_isPossible
  | 151 => mX7_goEvent
  | 152 => mX7_isSign
  | 153 => mX7_run
  | 154 => mX7_fault
  | 155 => mX7_play
  | 156 => mJ6_bitCount_0f7a4
  | 157 => mJ9_max_7cf53
  | _ => mL_law
/-- fields: the place in the pool, class, slot, whose pool; the word's place in the tables -/
def pw_flx : List ((Nat × Nat × Nat × String) × Nat) := [((7, 3, 0, RX3), 121), ((7, 7, 0, RX7), 645), ((9, 1, 0, RX1), 232), ((9, 5, 0, RX5), 88), ((10, 4, 0, RX4), 97), ((11, 0, 0, RX0), 172), ((11, 2, 0, RX2), 218), ((12, 6, 0, RX6), 258), ((13, 3, 1, RX3), 123), ((13, 7, 1, RX7), 646), ((15, 1, 1, RX1), 233), ((15, 5, 1, RX5), 89), ((16, 6, 1, RX6), 259), ((16, 3, 2, RX3), 125), ((16, 7, 2, RX7), 647), ((18, 2, 1, RX2), 219), ((19, 1, 6, RX1), 240), ((19, 7, 3, RX7), 648), ((20, 0, 1, RX0), 173), ((20, 3, 3, RX3), 127), ((20, 4, 1, RX4), 100), ((22, 6, 2, RX6), 260), ((22, 1, 3, RX1), 237), ((22, 7, 4, RX7), 649), ((23, 3, 4, RX3), 129), ((24, 4, 2, RX4), 101), ((25, 1, 2, RX1), 235), ((25, 7, 5, RX7), 650), ((26, 3, 5, RX3), 131), ((28, 0, 9, RX0), 181), ((28, 4, 3, RX4), 104), ((28, 7, 6, RX7), 651), ((29, 6, 3, RX6), 261), ((29, 3, 6, RX3), 133), ((31, 7, 8, RX7), 653), ((32, 0, 10, RX0), 182), ((32, 3, 7, RX3), 135), ((35, 0, 11, RX0), 183), ((35, 3, 8, RX3), 137), ((38, 3, 9, RX3), 139), ((39, 4, 1, RX0), 99), ((41, 3, 10, RX3), 141), ((43, 4, 3, RX0), 103), ((44, 1, 4, RX1), 238), ((44, 3, 11, RX3), 143), ((46, 0, 2, RX0), 174), ((49, 0, 7, RX0), 179), ((52, 1, 5, RX1), 239), ((59, 0, 3, RX0), 175), ((62, 0, 4, RX0), 176), ((65, 0, 5, RX0), 177), ((68, 0, 6, RX0), 178), ((71, 0, 8, RX0), 180), ((84, 4, 2, RX0), 102), ((88, 4, 0, RX0), 98), ((91, 5, 1, RX0), 90), ((98, 3, 0, RX0), 122), ((101, 3, 1, RX0), 124), ((104, 3, 2, RX0), 126), ((110, 3, 4, RX0), 130), ((117, 2, 1, RX6), 220), ((121, 1, 1, RX6), 234), ((126, 3, 6, RX0), 134), ((129, 3, 3, RX0), 128), ((131, 7, 7, RX7), 652), ((132, 3, 7, RX0), 136), ((134, 7, 9, RX7), 654), ((135, 3, 10, RX0), 142), ((137, 7, 10, RX7), 655), ((140, 7, 11, RX7), 656), ((144, 1, 6, RX6), 241), ((144, 3, 5, RX0), 132), ((147, 1, 2, RX6), 236), ((147, 3, 8, RX0), 138), ((149, 7, 12, RX7), 657), ((150, 3, 9, RX0), 140), ((169, 3, 11, RX0), 144)]
def pw_msx : List ((Nat × Nat) × Nat × Nat × Nat) := [((44, 1), 634, 56, 633), ((91, 1), 309, 50, 308), ((92, 1), 348, 50, 347), ((94, 3), 695, 57, 694), ((98, 1), 705, 57, 704), ((99, 1), 716, 57, 715), ((102, 1), 698, 57, 697), ((108, 1), 743, 57, 742), ((152, 1), 899, 57, 898), ((156, 1), 351, 59, 350), ((157, 2), 401, 60, 400)]
def pw_mvx : List ((Nat × Nat × Nat) × Nat × Nat × Nat × Nat) := [((1, 1, 0), 282, 51, 280, 281), ((2, 1, 0), 306, 51, 304, 305), ((3, 1, 0), 341, 51, 339, 340), ((4, 2, 0), 302, 51, 300, 301), ((5, 3, 0), 329, 51, 327, 328), ((6, 2, 0), 337, 51, 335, 336), ((7, 2, 0), 362, 51, 360, 361), ((8, 1, 0), 374, 51, 372, 373), ((9, 1, 0), 382, 51, 380, 381), ((10, 1, 0), 437, 51, 435, 436), ((11, 2, 0), 445, 51, 443, 444), ((12, 0, 0), 453, 51, 451, 452), ((13, 0, 0), 478, 51, 476, 477), ((14, 1, 0), 495, 51, 493, 494), ((15, 1, 0), 483, 51, 482, 6), ((16, 0, 0), 487, 51, 486, 7), ((17, 1, 0), 461, 51, 460, 5), ((18, 0, 0), 457, 51, 455, 456), ((19, 1, 0), 510, 51, 508, 509), ((20, 0, 0), 394, 51, 393, 2), ((21, 2, 0), 405, 51, 404, 3), ((22, 1, 0), 409, 51, 408, 4), ((23, 0, 0), 421, 51, 419, 420), ((24, 0, 0), 535, 51, 533, 534), ((25, 1, 0), 539, 51, 537, 538), ((26, 0, 0), 345, 51, 343, 344), ((27, 0, 0), 544, 51, 542, 543), ((28, 1, 0), 366, 51, 365, 1), ((29, 0, 0), 564, 51, 563, 10), ((30, 2, 0), 390, 51, 388, 389), ((31, 2, 0), 417, 51, 415, 416), ((32, 2, 0), 429, 51, 427, 428), ((33, 1, 0), 518, 51, 516, 517), ((34, 1, 0), 526, 51, 524, 525), ((35, 1, 0), 552, 51, 550, 551), ((36, 0, 0), 556, 51, 555, 8), ((37, 0, 0), 560, 51, 559, 9), ((38, 1, 0), 568, 51, 567, 11), ((40, 1, 1), 584, 56, 582, 583), ((41, 0, 1), 592, 56, 590, 591), ((42, 1, 1), 601, 56, 599, 600), ((43, 1, 1), 625, 56, 624, 17), ((45, 0, 1), 605, 56, 604, 12), ((46, 0, 1), 613, 56, 612, 14), ((47, 1, 1), 621, 56, 620, 16), ((48, 1, 1), 617, 56, 616, 15), ((49, 1, 1), 609, 56, 608, 13), ((51, 1, 2), 278, 55, 276, 277), ((52, 1, 2), 317, 55, 315, 316), ((53, 1, 2), 576, 55, 574, 575), ((54, 0, 2), 321, 55, 320, 0), ((56, 1, 3), 297, 54, 295, 296), ((58, 1, 4), 286, 52, 284, 285), ((60, 1, 5), 398, 53, 396, 397), ((61, 2, 5), 313, 53, 311, 312), ((62, 1, 5), 469, 53, 467, 468), ((63, 1, 5), 465, 53, 463, 464), ((64, 1, 5), 290, 53, 288, 289), ((66, 2, 6), 274, 50, 272, 273), ((67, 3, 6), 325, 50, 323, 324), ((68, 2, 6), 333, 50, 331, 332), ((69, 2, 6), 358, 50, 356, 357), ((70, 1, 6), 370, 50, 368, 369), ((71, 1, 6), 378, 50, 376, 377), ((72, 2, 6), 386, 50, 384, 385), ((73, 2, 6), 413, 50, 411, 412), ((74, 2, 6), 425, 50, 423, 424), ((75, 1, 6), 433, 50, 431, 432), ((76, 2, 6), 441, 50, 439, 440), ((77, 0, 6), 449, 50, 447, 448), ((78, 0, 6), 474, 50, 472, 473), ((79, 1, 6), 491, 50, 489, 490), ((80, 0, 6), 500, 50, 498, 499), ((81, 1, 6), 505, 50, 503, 504), ((82, 1, 6), 514, 50, 512, 513), ((83, 1, 6), 522, 50, 520, 521), ((84, 1, 6), 530, 50, 528, 529), ((85, 1, 6), 548, 50, 546, 547), ((86, 0, 6), 572, 50, 570, 571), ((87, 1, 6), 580, 50, 578, 579), ((88, 0, 6), 588, 50, 586, 587), ((89, 1, 6), 596, 50, 594, 595), ((90, 0, 6), 638, 50, 636, 637), ((95, 0, 7), 702, 57, 701, 19), ((96, 0, 7), 848, 57, 847, 38), ((97, 0, 7), 852, 57, 851, 39), ((100, 1, 7), 692, 57, 691, 18), ((101, 1, 7), 724, 57, 723, 21), ((103, 2, 7), 709, 57, 708, 20), ((104, 2, 7), 688, 57, 686, 687), ((105, 3, 7), 713, 57, 711, 712), ((106, 2, 7), 755, 57, 754, 27), ((107, 1, 7), 751, 57, 750, 26), ((109, 2, 7), 720, 57, 718, 719), ((110, 2, 7), 747, 57, 745, 746), ((111, 1, 7), 759, 57, 757, 758), ((112, 1, 7), 763, 57, 761, 762), ((113, 1, 7), 740, 57, 739, 25), ((114, 1, 7), 736, 57, 735, 24), ((115, 0, 7), 807, 57, 806, 32), ((116, 0, 7), 803, 57, 802, 31), ((117, 2, 7), 819, 57, 818, 35), ((118, 1, 7), 815, 57, 814, 34), ((119, 1, 7), 811, 57, 810, 33), ((120, 0, 7), 827, 57, 826, 36), ((121, 2, 7), 771, 57, 770, 28), ((122, 2, 7), 767, 57, 765, 766), ((123, 2, 7), 775, 57, 773, 774), ((124, 2, 7), 779, 57, 777, 778), ((125, 1, 7), 787, 57, 786, 29), ((126, 1, 7), 783, 57, 781, 782), ((127, 2, 7), 795, 57, 794, 30), ((128, 2, 7), 791, 57, 789, 790), ((129, 0, 7), 799, 57, 797, 798), ((130, 0, 7), 823, 57, 821, 822), ((131, 1, 7), 836, 57, 835, 37), ((132, 1, 7), 831, 57, 829, 830), ((133, 0, 7), 840, 57, 838, 839), ((134, 1, 7), 844, 57, 842, 843), ((135, 1, 7), 856, 57, 854, 855), ((136, 2, 7), 864, 57, 863, 40), ((137, 1, 7), 860, 57, 858, 859), ((138, 2, 7), 732, 57, 731, 23), ((139, 1, 7), 728, 57, 727, 22), ((140, 1, 7), 868, 57, 866, 867), ((141, 0, 7), 876, 57, 875, 41), ((142, 1, 7), 872, 57, 870, 871), ((143, 0, 7), 880, 57, 878, 879), ((144, 1, 7), 884, 57, 882, 883), ((145, 0, 7), 888, 57, 886, 887), ((146, 1, 7), 911, 57, 910, 45), ((147, 0, 7), 907, 57, 906, 44), ((148, 1, 7), 903, 57, 902, 43), ((149, 1, 7), 915, 57, 914, 46), ((150, 1, 7), 919, 57, 918, 47), ((151, 1, 7), 923, 57, 922, 48), ((153, 0, 7), 896, 57, 895, 42), ((154, 1, 7), 892, 57, 890, 891), ((155, 0, 7), 927, 57, 925, 926)]
def pw_slx : List ((Nat × Nat × Nat × String) × Nat) := [((35, 94, 3, RX7), 693), ((36, 44, 1, RX1), 632), ((39, 98, 1, RX7), 703), ((47, 102, 1, RX7), 696), ((57, 99, 1, RX7), 714), ((70, 108, 1, RX7), 741), ((81, 91, 1, RX0), 307), ((117, 156, 1, RX0), 349), ((137, 91, 1, RX6), 597), ((152, 152, 1, RX7), 897), ((153, 157, 2, RX0), 399), ((192, 92, 1, RX0), 346)]
def pw_vlx : List ((Nat × Nat × Nat × Nat × String) × Nat) := [((13, 66, 2, 6, RL), 271), ((16, 64, 1, 5, RX4), 287), ((17, 104, 2, 7, RL), 685), ((18, 67, 3, 6, RL), 322), ((19, 62, 1, 5, RX5), 466), ((22, 1, 1, 0, RX2), 279), ((22, 105, 3, 7, RL), 710), ((23, 61, 2, 5, RX5), 470), ((23, 68, 2, 6, RL), 330), ((26, 54, 0, 2, RX2), 318), ((26, 109, 2, 7, RL), 717), ((27, 69, 2, 6, RL), 355), ((28, 45, 0, 1, RX1), 602), ((30, 110, 2, 7, RL), 744), ((31, 70, 1, 6, RL), 367), ((32, 43, 1, 1, RX1), 622), ((33, 51, 1, 2, RX6), 275), ((35, 111, 1, 7, RL), 756), ((36, 71, 1, 6, RL), 375), ((37, 4, 2, 0, RX6), 299), ((39, 112, 1, 7, RL), 760), ((40, 49, 1, 1, RX1), 606), ((40, 72, 2, 6, RL), 383), ((41, 52, 1, 2, RX6), 314), ((43, 122, 2, 7, RL), 764), ((43, 100, 1, 7, RX7), 689), ((44, 73, 2, 6, RL), 410), ((45, 5, 3, 0, RX6), 326), ((47, 10, 1, 0, RX1), 626), ((47, 123, 2, 7, RL), 772), ((48, 74, 2, 6, RL), 422), ((49, 6, 2, 0, RX6), 334), ((50, 95, 0, 7, RX7), 699), ((51, 124, 2, 7, RL), 776), ((52, 7, 2, 0, RX6), 359), ((52, 58, 1, 4, RX0), 283), ((52, 75, 1, 6, RL), 430), ((53, 103, 2, 7, RX7), 706), ((55, 8, 1, 0, RX6), 371), ((55, 11, 2, 0, RX1), 627), ((55, 126, 1, 7, RL), 780), ((56, 56, 1, 3, RX0), 294), ((56, 76, 2, 6, RL), 438), ((58, 9, 1, 0, RX6), 379), ((59, 6, 2, 0, RX1), 628), ((59, 128, 2, 7, RL), 788), ((60, 77, 0, 6, RL), 446), ((60, 106, 2, 7, RX7), 752), ((61, 30, 2, 0, RX6), 387), ((62, 12, 0, 0, RX1), 629), ((64, 31, 2, 0, RX6), 414), ((64, 129, 0, 7, RL), 796), ((64, 101, 1, 7, RX7), 721), ((65, 78, 0, 6, RL), 471), ((66, 13, 0, 0, RX1), 630), ((67, 32, 2, 0, RX6), 426), ((67, 139, 1, 7, RX7), 725), ((68, 130, 0, 7, RL), 820), ((69, 14, 1, 0, RX1), 631), ((69, 79, 1, 6, RL), 488), ((70, 10, 1, 0, RX6), 434), ((72, 46, 0, 1, RX1), 610), ((72, 132, 1, 7, RL), 828), ((73, 11, 2, 0, RX6), 442), ((73, 80, 0, 6, RL), 497), ((73, 107, 1, 7, RX7), 748), ((74, 64, 1, 5, RX0), 298), ((75, 47, 1, 1, RX1), 618), ((76, 12, 0, 0, RX6), 450), ((76, 133, 0, 7, RL), 837), ((76, 113, 1, 7, RX7), 737), ((77, 2, 1, 0, RX0), 303), ((77, 81, 1, 6, RL), 502), ((79, 48, 1, 1, RX1), 614), ((79, 115, 0, 7, RX7), 804), ((80, 13, 0, 0, RX6), 475), ((80, 134, 1, 7, RL), 841), ((81, 82, 1, 6, RL), 511), ((82, 114, 1, 7, RX7), 733), ((83, 14, 1, 0, RX6), 492), ((84, 135, 1, 7, RL), 853), ((85, 83, 1, 6, RL), 519), ((85, 117, 2, 7, RX7), 816), ((86, 18, 0, 0, RX6), 501), ((88, 137, 1, 7, RL), 857), ((88, 118, 1, 7, RX7), 812), ((89, 1, 1, 0, RX6), 506), ((89, 84, 1, 6, RL), 527), ((92, 19, 1, 0, RX6), 507), ((92, 140, 1, 7, RL), 865), ((92, 121, 2, 7, RX7), 768), ((93, 85, 1, 6, RL), 545), ((94, 61, 2, 5, RX0), 310), ((96, 33, 1, 0, RX6), 515), ((96, 142, 1, 7, RL), 869), ((96, 125, 1, 7, RX7), 784), ((97, 86, 0, 6, RL), 569), ((99, 34, 1, 0, RX6), 523), ((99, 127, 2, 7, RX7), 792), ((100, 143, 0, 7, RL), 877), ((101, 87, 1, 6, RL), 577), ((102, 23, 0, 0, RX6), 531), ((102, 116, 0, 7, RX7), 800), ((104, 144, 1, 7, RL), 881), ((105, 24, 0, 0, RX6), 532), ((105, 88, 0, 6, RL), 585), ((106, 119, 1, 7, RX7), 808), ((107, 3, 1, 0, RX0), 338), ((108, 25, 1, 0, RX6), 536), ((108, 145, 0, 7, RL), 885), ((109, 89, 1, 6, RL), 593), ((109, 120, 0, 7, RX7), 824), ((111, 26, 0, 0, RX6), 540), ((112, 154, 1, 7, RL), 889), ((113, 26, 0, 0, RX0), 342), ((113, 90, 0, 6, RL), 635), ((113, 131, 1, 7, RX7), 833), ((114, 27, 0, 0, RX6), 541), ((116, 155, 0, 7, RL), 924), ((116, 96, 0, 7, RX7), 845), ((119, 97, 0, 7, RX7), 849), ((122, 136, 2, 7, RX7), 861), ((123, 28, 1, 0, RX0), 363), ((124, 35, 1, 0, RX6), 549), ((125, 138, 2, 7, RX7), 729), ((127, 53, 1, 2, RX6), 573), ((128, 141, 0, 7, RX7), 873), ((131, 40, 1, 1, RX6), 581), ((134, 41, 0, 1, RX6), 589), ((138, 23, 0, 0, RX0), 418), ((141, 42, 1, 1, RX6), 598), ((141, 18, 0, 0, RX0), 454), ((143, 147, 0, 7, RX7), 904), ((146, 146, 1, 7, RX7), 908), ((155, 148, 1, 7, RX7), 900), ((158, 149, 1, 7, RX7), 912), ((159, 17, 1, 0, RX0), 458), ((161, 150, 1, 7, RX7), 916), ((163, 60, 1, 5, RX0), 395), ((164, 151, 1, 7, RX7), 920), ((166, 62, 1, 5, RX0), 479), ((167, 153, 0, 7, RX7), 893), ((172, 15, 1, 0, RX0), 480), ((175, 16, 0, 0, RX0), 484), ((179, 63, 1, 5, RX0), 462), ((182, 20, 0, 0, RX0), 391), ((185, 21, 2, 0, RX0), 402), ((189, 22, 1, 0, RX0), 406), ((196, 36, 0, 0, RX0), 553), ((199, 37, 0, 0, RX0), 557), ((202, 29, 0, 0, RX0), 561), ((205, 38, 1, 0, RX0), 565)]
def pw_csx : List ((Nat × Int32 × String) × Nat) := [((178, 50000, RX0), 496), ((112, 50000, RX7), 832), ((265, 1431655765, RJ6), 352), ((266, 858993459, RJ6), 353), ((267, 252645135, RJ6), 354)]
/-- a word, by its place in the tables -/
def pw_at (i : Nat) (w : Cond) : Bool := decide (lw_tbl[i]? = some w) && goodWord w
theorem pw_at_ok {i : Nat} {w : Cond} (h : pw_at i w = true) : w ∈ pw_T := by
  unfold pw_at at h
  rw [Bool.and_eq_true, decide_eq_true_eq] at h
  exact List.mem_filter.mpr ⟨List.mem_of_getElem? h.1, h.2⟩
theorem pw_inT {w : Cond} (h : (decide (w ∈ lw_tbl) && goodWord w) = true) : w ∈ pw_T := by
  rw [Bool.and_eq_true, decide_eq_true_eq] at h
  exact List.mem_filter.mpr h
def pw_nat (i : Nat) (f : Cond → Bool) : Bool := match lw_tbl[i]? with
  | some w => f w
  | none => false
def pw_nestF (own : String) (idx ci k : Nat) (w : Cond) : Bool := match w with
  | .fieldLinkNest a b r n d _ => decide (a = own) && decide (b = idx) && decide (r = (pw_tb ci k).1) && decide (n = (pw_tb ci k).2.1) && decide (d = (pw_tb ci k).2.2.1)
  | _ => false
def pw_nestM (own : String) (idx : Nat) (x : MethodName) (w : Cond) : Bool := match w with
  | .methodLinkNest a b y _ => decide (a = own) && decide (b = idx) && decide (y = x)
  | _ => false
theorem pw_clok_all : ∀ ci, ci < 8 → pw_clok ci := by
  intro ci h
  have : ci = 0 ∨ ci = 1 ∨ ci = 2 ∨ ci = 3 ∨ ci = 4 ∨ ci = 5 ∨ ci = 6 ∨ ci = 7 := by omega
  have key : ∀ (ci : Nat), vwCl[ci]? = some (pw_R ci, pw_tb ci, pw_nf ci) → ((u_ws (pw_R ci) (pw_tb ci) (pw_nf ci)).all (fun w => decide (w ∈ lw_tbl) && goodWord w)) = true → (∀ k, k < pw_nf ci → parseFieldDescriptor (pw_tb ci k).2.2.1 = some (pw_ty ci k)) → (∀ a, a < pw_nf ci → ∀ b, b < pw_nf ci → a ≠ b → (pw_tb ci a).2.1 ≠ (pw_tb ci b).2.1) → pw_clok ci :=
    fun ci h1 h2 h3 h4 => ⟨h1, fun w hw => pw_inT (List.all_eq_true.mp h2 w hw), h3, h4⟩
  rcases this with rfl | rfl | rfl | rfl | rfl | rfl | rfl | rfl
  · exact key 0 rfl (by decide +kernel) tyX0_ok nmX0
  · exact key 1 rfl (by decide +kernel) tyX1_ok nmX1
  · exact key 2 rfl (by decide +kernel) tyX2_ok nmX2
  · exact key 3 rfl (by decide +kernel) tyX3_ok nmX3
  · exact key 4 rfl (by decide +kernel) tyX4_ok nmX4
  · exact key 5 rfl (by decide +kernel) tyX5_ok nmX5
  · exact key 6 rfl (by decide +kernel) tyX6_ok nmX6
  · exact key 7 rfl (by decide +kernel) tyX7_ok nmX7
def pw_flb (q : (Nat × Nat × Nat × String) × Nat) : Bool :=
  (pw_at q.2 (Cond.fieldLink q.1.2.2.2 q.1.1 (pw_tb q.1.2.1 q.1.2.2.1).1 (pw_tb q.1.2.1 q.1.2.2.1).2.1 (pw_tb q.1.2.1 q.1.2.2.1).2.2.1) || pw_nat q.2 (pw_nestF q.1.2.2.2 q.1.1 q.1.2.1 q.1.2.2.1)) && (Nat.blt q.1.2.1 8 && Nat.blt q.1.2.2.1 (pw_nf q.1.2.1))
theorem pw_flb_ok {q : (Nat × Nat × Nat × String) × Nat} (h : pw_flb q = true) : pw_fl q.1.2.2.2 q.1.1 q.1.2.1 q.1.2.2.1 ∧ q.1.2.1 < 8 ∧ q.1.2.2.1 < pw_nf q.1.2.1 := by
  unfold pw_flb at h
  rw [Bool.and_eq_true, Bool.and_eq_true, Bool.or_eq_true] at h
  obtain ⟨h, h2, h3⟩ := h
  refine ⟨?_, Nat.blt_eq.mp h2, Nat.blt_eq.mp h3⟩
  rcases h with h | h
  · exact Or.inl (pw_at_ok h)
  · unfold pw_nat at h
    split at h
    · rename_i w hw
      refine Or.inr ?_
      unfold pw_nestF at h
      split at h
      · simp only [Bool.and_eq_true, decide_eq_true_eq] at h
        obtain ⟨⟨⟨⟨rfl, rfl⟩, rfl⟩, rfl⟩, rfl⟩ := h
        exact ⟨_, List.mem_filter.mpr ⟨List.mem_of_getElem? hw, rfl⟩⟩
      · cases h
    · cases h
def pw_fls : List (Nat × Nat × Nat × String) := pw_flx.map (fun q => q.1)
theorem pw_fls_ok : ∀ q ∈ pw_fls, pw_fl q.2.2.2 q.1 q.2.1 q.2.2.1 ∧ q.2.1 < 8 ∧ q.2.2.1 < pw_nf q.2.1 := by
  have h : pw_flx.all pw_flb = true := by decide +kernel
  intro q hq
  obtain ⟨r, hr, rfl⟩ := List.mem_map.mp hq
  exact pw_flb_ok (List.all_eq_true.mp h r hr)
/-- what a method has, whoever calls it -/
def pm_me (y : pm_I) (nargs : Nat) : Prop := Cond.code y.1 y.2.1 y.2.2.1 y.2.2.2 ∈ pw_T ∧ Cond.initialized y.1.cls ∈ pw_T ∧
  (y.1.cls ≠ "java/lang/invoke/MethodHandle" ∧ y.1.cls ≠ "java/lang/invoke/VarHandle" ∧ (parseMethodDescriptor y.1.desc).map (fun d => d.parameters.length) = some nargs) ∧ y.2.2.1 ≤ 11
def pm_meb (y : pm_I) (nargs i j : Nat) : Bool := pw_at i (Cond.code y.1 y.2.1 y.2.2.1 y.2.2.2) && (pw_at j (Cond.initialized y.1.cls) &&
  (decide (y.1.cls ≠ "java/lang/invoke/MethodHandle" ∧ y.1.cls ≠ "java/lang/invoke/VarHandle" ∧ (parseMethodDescriptor y.1.desc).map (fun d => d.parameters.length) = some nargs) && Nat.ble y.2.2.1 11))
theorem pm_meb_ok {y : pm_I} {nargs i j : Nat} (h : pm_meb y nargs i j = true) : pm_me y nargs := by
  unfold pm_meb at h
  rw [Bool.and_eq_true, Bool.and_eq_true, Bool.and_eq_true] at h
  obtain ⟨h1, h2, h3, h4⟩ := h
  exact ⟨pw_at_ok h1, pw_at_ok h2, of_decide_eq_true h3, Nat.le_of_ble_eq_true h4⟩
theorem pw_ms_ok : ∀ q ∈ pw_msx, pm_me (pw_Ms q.1.1) q.1.2 ∧ Cond.static (pw_Ms q.1.1).1 ∈ pw_T := by
  have h : pw_msx.all (fun q => pm_meb (pw_Ms q.1.1) q.1.2 q.2.1 q.2.2.1 && pw_at q.2.2.2 (Cond.static (pw_Ms q.1.1).1)) = true := by decide +kernel
  intro q hq
  have h1 := List.all_eq_true.mp h q hq
  rw [Bool.and_eq_true] at h1
  exact ⟨pm_meb_ok h1.1, pw_at_ok h1.2⟩
def pw_mvb (q : (Nat × Nat × Nat) × Nat × Nat × Nat × Nat) : Bool := pm_meb (pw_Ms q.1.1) q.1.2.1 q.2.1 q.2.2.1 && (pw_at q.2.2.2.1 (Cond.instanceMethod (pw_Ms q.1.1).1) && (pw_at q.2.2.2.2 (Cond.selects (pw_Ms q.1.1).1.cls (pw_Ms q.1.1).1 (pw_Ms q.1.1).1) && (Nat.blt q.1.2.2 8 && decide (pw_R q.1.2.2 = (pw_Ms q.1.1).1.cls))))
theorem pw_mv_ok : ∀ q ∈ pw_mvx, pm_me (pw_Ms q.1.1) q.1.2.1 ∧ Cond.instanceMethod (pw_Ms q.1.1).1 ∈ pw_T ∧ Cond.selects (pw_Ms q.1.1).1.cls (pw_Ms q.1.1).1 (pw_Ms q.1.1).1 ∈ pw_T ∧ q.1.2.2 < 8 ∧ pw_R q.1.2.2 = (pw_Ms q.1.1).1.cls ∧ pw_clok q.1.2.2 := by
  have h0 : (pw_mvx.take 30).all pw_mvb = true := by decide +kernel
  have h1 : ((pw_mvx.drop 30).take 30).all pw_mvb = true := by decide +kernel
  have h2 : ((pw_mvx.drop 60).take 30).all pw_mvb = true := by decide +kernel
  have h3 : ((pw_mvx.drop 90).take 30).all pw_mvb = true := by decide +kernel
  have h4 : (pw_mvx.drop 120).all pw_mvb = true := by decide +kernel
  have h : pw_mvx.all pw_mvb = true := by
    have e : pw_mvx = pw_mvx.take 30 ++ ((pw_mvx.drop 30).take 30 ++ ((pw_mvx.drop 60).take 30 ++ ((pw_mvx.drop 90).take 30 ++ pw_mvx.drop 120))) := by decide +kernel
    rw [e, List.all_append, List.all_append, List.all_append, List.all_append, h0, h1, h2, h3, h4]
    rfl
  intro q hq
  have h1 := List.all_eq_true.mp h q hq
  unfold pw_mvb at h1
  rw [Bool.and_eq_true, Bool.and_eq_true, Bool.and_eq_true, Bool.and_eq_true] at h1
  obtain ⟨h1, h2, h3, h4, h5⟩ := h1
  exact ⟨pm_meb_ok h1, pw_at_ok h2, pw_at_ok h3, Nat.blt_eq.mp h4, of_decide_eq_true h5, pw_clok_all _ (Nat.blt_eq.mp h4)⟩
def pm_lkb (own : String) (idx : Nat) (x : MethodName) (i : Nat) : Bool := pw_at i (Cond.methodLink own idx x) || pw_nat i (pw_nestM own idx x)
theorem pm_lkb_ok {own : String} {idx : Nat} {x : MethodName} {i : Nat} (h : pm_lkb own idx x i = true) : Cond.methodLink own idx x ∈ pw_T ∨ ∃ host, Cond.methodLinkNest own idx x host ∈ pw_N := by
  unfold pm_lkb at h
  rw [Bool.or_eq_true] at h
  rcases h with h | h
  · exact Or.inl (pw_at_ok h)
  · unfold pw_nat at h
    split at h
    · rename_i w hw
      refine Or.inr ?_
      unfold pw_nestM at h
      split at h
      · simp only [Bool.and_eq_true, decide_eq_true_eq] at h
        obtain ⟨⟨rfl, rfl⟩, rfl⟩ := h
        exact ⟨_, List.mem_filter.mpr ⟨List.mem_of_getElem? hw, rfl⟩⟩
      · cases h
    · cases h
theorem pm_me.ln {own : String} {idx nargs : Nat} {y : pm_I} (h : pm_me y nargs) (hl : Cond.methodLink own idx y.1 ∈ pw_T ∨ ∃ host, Cond.methodLinkNest own idx y.1 host ∈ pw_N) : pm_ln own idx y nargs := ⟨h.1, h.2.1, hl, h.2.2.1, h.2.2.2⟩
def pw_sls : List (Nat × Nat × Nat × String) := pw_slx.map (fun q => q.1)
theorem pw_sls_ok : ∀ q ∈ pw_sls, pm_lnS q.2.2.2 q.1 (pw_Ms q.2.1) q.2.2.1 := by
  have h : pw_slx.all (fun q => pm_lkb q.1.2.2.2 q.1.1 (pw_Ms q.1.2.1).1 q.2 && pw_msx.any (fun r => Nat.beq r.1.1 q.1.2.1 && Nat.beq r.1.2 q.1.2.2.1)) = true := by decide +kernel
  intro q hq
  obtain ⟨x, hx, rfl⟩ := List.mem_map.mp hq
  have h1 := List.all_eq_true.mp h x hx
  rw [Bool.and_eq_true] at h1
  obtain ⟨r, hr, h2⟩ := List.any_eq_true.mp h1.2
  rw [Bool.and_eq_true] at h2
  have h3 := pw_ms_ok r hr
  rw [Nat.eq_of_beq_eq_true h2.1, Nat.eq_of_beq_eq_true h2.2] at h3
  exact ⟨h3.1.ln (pm_lkb_ok h1.1), h3.2⟩
def pw_vls : List (Nat × Nat × Nat × Nat × String) := pw_vlx.map (fun q => q.1)
def pw_vlb (q : (Nat × Nat × Nat × Nat × String) × Nat) : Bool := pm_lkb q.1.2.2.2.2 q.1.1 (pw_Ms q.1.2.1).1 q.2 && pw_mvx.any (fun r => Nat.beq r.1.1 q.1.2.1 && (Nat.beq r.1.2.1 q.1.2.2.1 && Nat.beq r.1.2.2 q.1.2.2.2.1))
theorem pw_vls_ok : ∀ q ∈ pw_vls, pm_lnV q.2.2.2.2 q.1 (pw_Ms q.2.1) q.2.2.1 q.2.2.2.1 := by
  have h0 : (pw_vlx.take 60).all pw_vlb = true := by decide +kernel
  have h1 : ((pw_vlx.drop 60).take 60).all pw_vlb = true := by decide +kernel
  have h2 : (pw_vlx.drop 120).all pw_vlb = true := by decide +kernel
  have h : pw_vlx.all pw_vlb = true := by
    have e : pw_vlx = pw_vlx.take 60 ++ ((pw_vlx.drop 60).take 60 ++ pw_vlx.drop 120) := by decide +kernel
    rw [e, List.all_append, List.all_append, h0, h1, h2]
    rfl
  intro q hq
  obtain ⟨x, hx, rfl⟩ := List.mem_map.mp hq
  have h1 := List.all_eq_true.mp h x hx
  unfold pw_vlb at h1
  rw [Bool.and_eq_true] at h1
  obtain ⟨r, hr, h2⟩ := List.any_eq_true.mp h1.2
  rw [Bool.and_eq_true, Bool.and_eq_true] at h2
  have h3 := pw_mv_ok r hr
  rw [Nat.eq_of_beq_eq_true h2.1, Nat.eq_of_beq_eq_true h2.2.1, Nat.eq_of_beq_eq_true h2.2.2] at h3
  exact ⟨h3.1.ln (pm_lkb_ok h1.1), h3.2⟩
def pw_csl : List (Nat × Int32 × String) := pw_csx.map (fun q => q.1)
theorem pw_csl_ok : ∀ q ∈ pw_csl, Cond.constant q.2.2 q.1 q.2.1 ∈ pw_T := by
  have h : pw_csx.all (fun q => pw_at q.2 (Cond.constant q.1.2.2 q.1.1 q.1.2.1)) = true := by decide +kernel
  intro q hq
  obtain ⟨x, hx, rfl⟩ := List.mem_map.mp hq
  exact pw_at_ok (List.all_eq_true.mp h x hx)
/-- the check of an entry, for the kernel -/
def pm_okb (own : String) (code : ByteArray) (pc : Nat) (q : pm_E) : Bool := match q with
  | (i, nx, a, b, c, v, sw) => decide (decode code pc = .ok (i, nx - pc)) && (decide (pc < nx) && match i with
    | .iconst x => decide (nx = pc + 1 ∧ Int32.ofInt x = v)
    | .bipush x => decide (nx = pc + 2 ∧ (Int8.ofInt x).toInt32 = v)
    | .sipush x => decide (nx = pc + 3 ∧ (Int16.ofInt x).toInt32 = v)
    | .ldc x => decide (nx = pc + 2 ∧ (x, v, own) ∈ pw_csl)
    | .ldc_w x => decide (nx = pc + 3 ∧ (x, v, own) ∈ pw_csl)
    | .iload _ => decide (nx = pc + 2)
    | .aload _ => decide (nx = pc + 2)
    | .istore _ => decide (nx = pc + 2)
    | .astore _ => decide (nx = pc + 2)
    | .iinc _ x => decide (nx = pc + 3 ∧ Int32.ofInt x = v)
    | .goto off => decide (nx = pc + 3 ∧ (pc : Int) + off = (a : Int))
    | .ifCond _ off => decide (nx = pc + 3 ∧ (pc : Int) + off = (a : Int))
    | .if_icmp _ off => decide (nx = pc + 3 ∧ (pc : Int) + off = (a : Int))
    | .tableswitch d lo hi offs => decide ((pc : Int) + d = (a : Int) ∧ -2147483648 ≤ lo ∧ hi < 2147483648 ∧ offs.size = (hi + 1 - lo).toNat ∧ sw = (List.range offs.size).map (fun (j : Nat) => (Int32.ofInt (lo + (j : Int)), ((pc : Int) + offs.getD j 0).toNat)) ∧ (List.range offs.size).all (fun (j : Nat) => decide (0 ≤ (pc : Int) + offs.getD j 0)) = true)
    | .lookupswitch d ps => decide ((pc : Int) + d = (a : Int) ∧ (ps.toList.zip (ps.toList.drop 1)).all (fun (a, next) => a.1 < next.1) = true ∧ sw = ps.toList.map (fun q => (Int32.ofInt q.1, ((pc : Int) + q.2).toNat)) ∧ ps.toList.all (fun q => decide (0 ≤ (pc : Int) + q.2 ∧ -2147483648 ≤ q.1 ∧ q.1 < 2147483648)) = true)
    | .getfield x => decide (nx = pc + 3 ∧ (x, a, b, own) ∈ pw_fls ∧ pw_rf a b = (match sw with
      | [] => false
      | _ => true))
    | .putfield x => decide (nx = pc + 3 ∧ (x, a, b, own) ∈ pw_fls ∧ pw_rf a b = false ∧ (pw_tb a b).2.2.2 = false ∧ pw_ty a b = (match sw with
      | [] => .int
      | _ => .boolean))
    | .invokestatic x => decide (nx = pc + 3 ∧ (x, a, b, own) ∈ pw_sls)
    | .invokevirtual x => decide (nx = pc + 3 ∧ (x, a, b, c, own) ∈ pw_vls)
    | _ => decide (nx = pc + 1))
theorem pm_okb_ok {y : pm_I} {pc : Nat} {q : pm_E} (h : pm_okb y.1.cls y.2.1 pc q = true) : pm_ok y pw_Ms pc q := by
  obtain ⟨i, nx, a, b, c, v, sw⟩ := q
  unfold pm_okb at h
  dsimp only at h
  rw [Bool.and_eq_true, Bool.and_eq_true, decide_eq_true_eq, decide_eq_true_eq] at h
  obtain ⟨h1, h2, h⟩ := h
  refine ⟨h1, h2, ?_⟩
  cases i <;> (try dsimp only at h ⊢) <;> rw [decide_eq_true_eq] at h <;> try exact h
  case ldc x => exact ⟨h.1, pw_csl_ok _ h.2⟩
  case ldc_w x => exact ⟨h.1, pw_csl_ok _ h.2⟩
  case getfield x =>
    obtain ⟨h3, h4, h5⟩ := h
    obtain ⟨h6, h7, h8⟩ := pw_fls_ok _ h4
    exact ⟨h3, h7, pw_clok_all _ h7, h8, h6, h5⟩
  case putfield x =>
    obtain ⟨h3, h4, h5, h9, h10⟩ := h
    obtain ⟨h6, h7, h8⟩ := pw_fls_ok _ h4
    refine ⟨h3, h7, pw_clok_all _ h7, h8, h6, h5, h9, ?_⟩
    cases sw <;> exact h10
  case invokestatic x => exact ⟨h.1, pw_sls_ok _ h.2⟩
  case invokevirtual x => exact ⟨h.1, pw_vls_ok _ h.2⟩
def pm_lk : List (Nat × pm_E) → Nat → pm_E
  | [], _ => (.nop, 0, 0, 0, 0, 0, [])
  | (k, q) :: r, pc => bif Nat.beq k pc then q else pm_lk r pc
theorem pm_lk_ok {y : pm_I} {lt : List (Nat × pm_E)} (h : lt.all (fun q => pm_okb y.1.cls y.2.1 q.1 q.2) = true) : ∀ pc, (pm_lk lt pc).1 = .nop ∨ pm_ok y pw_Ms pc (pm_lk lt pc) := by
  intro pc
  induction lt with
  | nil => exact Or.inl rfl
  | cons q r ih =>
    obtain ⟨k, q⟩ := q
    rw [List.all_cons, Bool.and_eq_true] at h
    unfold pm_lk
    cases e : Nat.beq k pc with
    | true =>
      have : k = pc := Nat.eq_of_beq_eq_true e
      subst this
      exact Or.inr (pm_okb_ok h.1)
    | false => exact ih h.2
end
section
/-! code tables 0, by program -/
def ltX0_init : List (Nat × pm_E) := [(0, .aload_n 0, 1, 0, 0, 0, 0, []), (4, .aload_n 0, 5, 0, 0, 0, 0, []), (5, .bipush 6, 7, 0, 0, 0, 6, []), (13, .iconst 0, 14, 0, 0, 0, 0, []), (14, .istore_n 1, 15, 0, 0, 0, 0, []), (15, .iload_n 1, 16, 0, 0, 0, 0, []), (16, .bipush 6, 18, 0, 0, 0, 6, []), (18, .if_icmp .ge 22, 21, 40, 0, 0, 0, []), (21, .aload_n 0, 22, 0, 0, 0, 0, []), (22, .getfield 11, 25, 0, 0, 0, 0, [(0, 0)]), (25, .iload_n 1, 26, 0, 0, 0, 0, []), (29, .dup, 30, 0, 0, 0, 0, []), (34, .iinc 1 1, 37, 0, 0, 0, 1, []), (37, .goto (-22), 40, 15, 0, 0, 0, []), (40, .aload_n 0, 41, 0, 0, 0, 0, []), (41, .bipush 16, 43, 0, 0, 0, 16, []), (49, .iconst 0, 50, 0, 0, 0, 0, []), (50, .istore_n 1, 51, 0, 0, 0, 0, []), (51, .iload_n 1, 52, 0, 0, 0, 0, []), (52, .bipush 16, 54, 0, 0, 0, 16, []), (54, .if_icmp .ge 22, 57, 76, 0, 0, 0, []), (57, .aload_n 0, 58, 0, 0, 0, 0, []), (58, .getfield 20, 61, 0, 1, 0, 0, [(0, 0)]), (61, .iload_n 1, 62, 0, 0, 0, 0, []), (65, .dup, 66, 0, 0, 0, 0, []), (70, .iinc 1 1, 73, 0, 0, 0, 1, []), (73, .goto (-22), 76, 51, 0, 0, 0, []), (76, .aload_n 0, 77, 0, 0, 0, 0, []), (80, .dup, 81, 0, 0, 0, 0, []), (87, .aload_n 0, 88, 0, 0, 0, 0, []), (91, .dup, 92, 0, 0, 0, 0, []), (98, .aload_n 0, 99, 0, 0, 0, 0, []), (99, .bipush 6, 101, 0, 0, 0, 6, []), (106, .aload_n 0, 107, 0, 0, 0, 0, []), (107, .getfield 11, 110, 0, 0, 0, 0, [(0, 0)]), (110, .iconst 0, 111, 0, 0, 0, 0, []), (111, .aaload, 112, 0, 0, 0, 0, []), (112, .iconst (-1), 113, 0, 0, 0, -1, []), (113, .putfield 39, 116, 4, 1, 0, 0, []), (116, .aload_n 0, 117, 0, 0, 0, 0, []), (117, .getfield 11, 120, 0, 0, 0, 0, [(0, 0)]), (120, .iconst 0, 121, 0, 0, 0, 0, []), (121, .aaload, 122, 0, 0, 0, 0, []), (122, .iconst 1, 123, 0, 0, 0, 1, []), (123, .putfield 43, 126, 4, 3, 0, 0, []), (126, .aload_n 0, 127, 0, 0, 0, 0, []), (127, .iconst 1, 128, 0, 0, 0, 1, []), (128, .putfield 46, 131, 0, 2, 0, 0, []), (131, .aload_n 0, 132, 0, 0, 0, 0, []), (132, .iconst 3, 133, 0, 0, 0, 3, []), (133, .putfield 49, 136, 0, 7, 0, 0, []), (136, .return_, 137, 0, 0, 0, 0, [])]
def tbX0_init : Nat → pm_E := pm_lk ltX0_init
theorem okX0_init : ∀ pc, (tbX0_init pc).1 = .nop ∨ pm_ok mX0_init pw_Ms pc (tbX0_init pc) := pm_lk_ok (by decide +kernel)
theorem nr_X0_init : mX0_init.2.2.2 = none := rfl
theorem tX0_init_0 : tbX0_init 0 = (.aload_n 0, 1, 0, 0, 0, 0, []) := rfl
theorem tX0_init_4 : tbX0_init 4 = (.aload_n 0, 5, 0, 0, 0, 0, []) := rfl
theorem tX0_init_5 : tbX0_init 5 = (.bipush 6, 7, 0, 0, 0, 6, []) := rfl
theorem tX0_init_13 : tbX0_init 13 = (.iconst 0, 14, 0, 0, 0, 0, []) := rfl
theorem tX0_init_14 : tbX0_init 14 = (.istore_n 1, 15, 0, 0, 0, 0, []) := rfl
theorem tX0_init_15 : tbX0_init 15 = (.iload_n 1, 16, 0, 0, 0, 0, []) := rfl
theorem tX0_init_16 : tbX0_init 16 = (.bipush 6, 18, 0, 0, 0, 6, []) := rfl
theorem tX0_init_18 : tbX0_init 18 = (.if_icmp .ge 22, 21, 40, 0, 0, 0, []) := rfl
theorem tX0_init_21 : tbX0_init 21 = (.aload_n 0, 22, 0, 0, 0, 0, []) := rfl
theorem tX0_init_22 : tbX0_init 22 = (.getfield 11, 25, 0, 0, 0, 0, [(0, 0)]) := rfl
theorem tX0_init_25 : tbX0_init 25 = (.iload_n 1, 26, 0, 0, 0, 0, []) := rfl
theorem tX0_init_29 : tbX0_init 29 = (.dup, 30, 0, 0, 0, 0, []) := rfl
theorem tX0_init_34 : tbX0_init 34 = (.iinc 1 1, 37, 0, 0, 0, 1, []) := rfl
theorem tX0_init_37 : tbX0_init 37 = (.goto (-22), 40, 15, 0, 0, 0, []) := rfl
theorem tX0_init_40 : tbX0_init 40 = (.aload_n 0, 41, 0, 0, 0, 0, []) := rfl
theorem tX0_init_41 : tbX0_init 41 = (.bipush 16, 43, 0, 0, 0, 16, []) := rfl
theorem tX0_init_49 : tbX0_init 49 = (.iconst 0, 50, 0, 0, 0, 0, []) := rfl
theorem tX0_init_50 : tbX0_init 50 = (.istore_n 1, 51, 0, 0, 0, 0, []) := rfl
theorem tX0_init_51 : tbX0_init 51 = (.iload_n 1, 52, 0, 0, 0, 0, []) := rfl
theorem tX0_init_52 : tbX0_init 52 = (.bipush 16, 54, 0, 0, 0, 16, []) := rfl
theorem tX0_init_54 : tbX0_init 54 = (.if_icmp .ge 22, 57, 76, 0, 0, 0, []) := rfl
theorem tX0_init_57 : tbX0_init 57 = (.aload_n 0, 58, 0, 0, 0, 0, []) := rfl
theorem tX0_init_58 : tbX0_init 58 = (.getfield 20, 61, 0, 1, 0, 0, [(0, 0)]) := rfl
theorem tX0_init_61 : tbX0_init 61 = (.iload_n 1, 62, 0, 0, 0, 0, []) := rfl
theorem tX0_init_65 : tbX0_init 65 = (.dup, 66, 0, 0, 0, 0, []) := rfl
theorem tX0_init_70 : tbX0_init 70 = (.iinc 1 1, 73, 0, 0, 0, 1, []) := rfl
theorem tX0_init_73 : tbX0_init 73 = (.goto (-22), 76, 51, 0, 0, 0, []) := rfl
theorem tX0_init_76 : tbX0_init 76 = (.aload_n 0, 77, 0, 0, 0, 0, []) := rfl
theorem tX0_init_80 : tbX0_init 80 = (.dup, 81, 0, 0, 0, 0, []) := rfl
theorem tX0_init_87 : tbX0_init 87 = (.aload_n 0, 88, 0, 0, 0, 0, []) := rfl
theorem tX0_init_91 : tbX0_init 91 = (.dup, 92, 0, 0, 0, 0, []) := rfl
theorem tX0_init_98 : tbX0_init 98 = (.aload_n 0, 99, 0, 0, 0, 0, []) := rfl
theorem tX0_init_99 : tbX0_init 99 = (.bipush 6, 101, 0, 0, 0, 6, []) := rfl
theorem tX0_init_106 : tbX0_init 106 = (.aload_n 0, 107, 0, 0, 0, 0, []) := rfl
theorem tX0_init_107 : tbX0_init 107 = (.getfield 11, 110, 0, 0, 0, 0, [(0, 0)]) := rfl
theorem tX0_init_110 : tbX0_init 110 = (.iconst 0, 111, 0, 0, 0, 0, []) := rfl
theorem tX0_init_111 : tbX0_init 111 = (.aaload, 112, 0, 0, 0, 0, []) := rfl
theorem tX0_init_112 : tbX0_init 112 = (.iconst (-1), 113, 0, 0, 0, -1, []) := rfl
theorem tX0_init_113 : tbX0_init 113 = (.putfield 39, 116, 4, 1, 0, 0, []) := rfl
theorem tX0_init_116 : tbX0_init 116 = (.aload_n 0, 117, 0, 0, 0, 0, []) := rfl
theorem tX0_init_117 : tbX0_init 117 = (.getfield 11, 120, 0, 0, 0, 0, [(0, 0)]) := rfl
theorem tX0_init_120 : tbX0_init 120 = (.iconst 0, 121, 0, 0, 0, 0, []) := rfl
theorem tX0_init_121 : tbX0_init 121 = (.aaload, 122, 0, 0, 0, 0, []) := rfl
theorem tX0_init_122 : tbX0_init 122 = (.iconst 1, 123, 0, 0, 0, 1, []) := rfl
theorem tX0_init_123 : tbX0_init 123 = (.putfield 43, 126, 4, 3, 0, 0, []) := rfl
theorem tX0_init_126 : tbX0_init 126 = (.aload_n 0, 127, 0, 0, 0, 0, []) := rfl
theorem tX0_init_127 : tbX0_init 127 = (.iconst 1, 128, 0, 0, 0, 1, []) := rfl
theorem tX0_init_128 : tbX0_init 128 = (.putfield 46, 131, 0, 2, 0, 0, []) := rfl
theorem tX0_init_131 : tbX0_init 131 = (.aload_n 0, 132, 0, 0, 0, 0, []) := rfl
theorem tX0_init_132 : tbX0_init 132 = (.iconst 3, 133, 0, 0, 0, 3, []) := rfl
theorem tX0_init_133 : tbX0_init 133 = (.putfield 49, 136, 0, 7, 0, 0, []) := rfl
theorem tX0_init_136 : tbX0_init 136 = (.return_, 137, 0, 0, 0, 0, []) := rfl
def ltX0_copyFrom : List (Nat × pm_E) := [(0, .iconst 0, 1, 0, 0, 0, 0, []), (1, .istore_n 2, 2, 0, 0, 0, 0, []), (2, .iload_n 2, 3, 0, 0, 0, 0, []), (3, .bipush 6, 5, 0, 0, 0, 6, []), (5, .if_icmp .ge 24, 8, 29, 0, 0, 0, []), (8, .aload_n 0, 9, 0, 0, 0, 0, []), (9, .getfield 11, 12, 0, 0, 0, 0, [(0, 0)]), (12, .iload_n 2, 13, 0, 0, 0, 0, []), (13, .aaload, 14, 0, 0, 0, 0, []), (14, .aload_n 1, 15, 0, 0, 0, 0, []), (15, .getfield 11, 18, 0, 0, 0, 0, [(0, 0)]), (18, .iload_n 2, 19, 0, 0, 0, 0, []), (19, .aaload, 20, 0, 0, 0, 0, []), (20, .invokevirtual 52, 23, 58, 1, 4, 0, []), (23, .iinc 2 1, 26, 0, 0, 0, 1, []), (26, .goto (-24), 29, 2, 0, 0, 0, []), (29, .iconst 0, 30, 0, 0, 0, 0, []), (30, .istore_n 2, 31, 0, 0, 0, 0, []), (31, .iload_n 2, 32, 0, 0, 0, 0, []), (32, .bipush 16, 34, 0, 0, 0, 16, []), (34, .if_icmp .ge 24, 37, 58, 0, 0, 0, []), (37, .aload_n 0, 38, 0, 0, 0, 0, []), (38, .getfield 20, 41, 0, 1, 0, 0, [(0, 0)]), (41, .iload_n 2, 42, 0, 0, 0, 0, []), (42, .aaload, 43, 0, 0, 0, 0, []), (43, .aload_n 1, 44, 0, 0, 0, 0, []), (44, .getfield 20, 47, 0, 1, 0, 0, [(0, 0)]), (47, .iload_n 2, 48, 0, 0, 0, 0, []), (48, .aaload, 49, 0, 0, 0, 0, []), (49, .invokevirtual 56, 52, 56, 1, 3, 0, []), (52, .iinc 2 1, 55, 0, 0, 0, 1, []), (55, .goto (-24), 58, 31, 0, 0, 0, []), (58, .aload_n 0, 59, 0, 0, 0, 0, []), (59, .aload_n 1, 60, 0, 0, 0, 0, []), (60, .getfield 46, 63, 0, 2, 0, 0, []), (63, .putfield 46, 66, 0, 2, 0, 0, []), (66, .aload_n 0, 67, 0, 0, 0, 0, []), (67, .aload_n 1, 68, 0, 0, 0, 0, []), (68, .getfield 59, 71, 0, 3, 0, 0, []), (71, .putfield 59, 74, 0, 3, 0, 0, []), (74, .aload_n 0, 75, 0, 0, 0, 0, []), (75, .aload_n 1, 76, 0, 0, 0, 0, []), (76, .getfield 62, 79, 0, 4, 0, 0, []), (79, .putfield 62, 82, 0, 4, 0, 0, []), (82, .aload_n 0, 83, 0, 0, 0, 0, []), (83, .aload_n 1, 84, 0, 0, 0, 0, []), (84, .getfield 65, 87, 0, 5, 0, 0, []), (87, .putfield 65, 90, 0, 5, 0, 0, []), (90, .aload_n 0, 91, 0, 0, 0, 0, []), (91, .aload_n 1, 92, 0, 0, 0, 0, []), (92, .getfield 68, 95, 0, 6, 0, 0, []), (95, .putfield 68, 98, 0, 6, 0, 0, []), (98, .aload_n 0, 99, 0, 0, 0, 0, []), (99, .aload_n 1, 100, 0, 0, 0, 0, []), (100, .getfield 49, 103, 0, 7, 0, 0, []), (103, .putfield 49, 106, 0, 7, 0, 0, []), (106, .aload_n 0, 107, 0, 0, 0, 0, []), (107, .aload_n 1, 108, 0, 0, 0, 0, []), (108, .getfield 71, 111, 0, 8, 0, 0, []), (111, .putfield 71, 114, 0, 8, 0, 0, []), (114, .aload_n 0, 115, 0, 0, 0, 0, []), (115, .getfield 28, 118, 0, 9, 0, 0, [(0, 0)]), (118, .aload_n 1, 119, 0, 0, 0, 0, []), (119, .getfield 28, 122, 0, 9, 0, 0, [(0, 0)]), (122, .invokevirtual 74, 125, 64, 1, 5, 0, []), (125, .aload_n 0, 126, 0, 0, 0, 0, []), (126, .getfield 32, 129, 0, 10, 0, 0, [(0, 0)]), (129, .aload_n 1, 130, 0, 0, 0, 0, []), (130, .getfield 32, 133, 0, 10, 0, 0, [(0, 0)]), (133, .invokevirtual 74, 136, 64, 1, 5, 0, []), (136, .return_, 137, 0, 0, 0, 0, [])]
def tbX0_copyFrom : Nat → pm_E := pm_lk ltX0_copyFrom
theorem okX0_copyFrom : ∀ pc, (tbX0_copyFrom pc).1 = .nop ∨ pm_ok mX0_copyFrom pw_Ms pc (tbX0_copyFrom pc) := pm_lk_ok (by decide +kernel)
theorem nr_X0_copyFrom : mX0_copyFrom.2.2.2 = none := rfl
theorem tX0_copyFrom_0 : tbX0_copyFrom 0 = (.iconst 0, 1, 0, 0, 0, 0, []) := rfl
theorem tX0_copyFrom_1 : tbX0_copyFrom 1 = (.istore_n 2, 2, 0, 0, 0, 0, []) := rfl
theorem tX0_copyFrom_2 : tbX0_copyFrom 2 = (.iload_n 2, 3, 0, 0, 0, 0, []) := rfl
theorem tX0_copyFrom_3 : tbX0_copyFrom 3 = (.bipush 6, 5, 0, 0, 0, 6, []) := rfl
theorem tX0_copyFrom_5 : tbX0_copyFrom 5 = (.if_icmp .ge 24, 8, 29, 0, 0, 0, []) := rfl
theorem tX0_copyFrom_8 : tbX0_copyFrom 8 = (.aload_n 0, 9, 0, 0, 0, 0, []) := rfl
theorem tX0_copyFrom_9 : tbX0_copyFrom 9 = (.getfield 11, 12, 0, 0, 0, 0, [(0, 0)]) := rfl
theorem tX0_copyFrom_12 : tbX0_copyFrom 12 = (.iload_n 2, 13, 0, 0, 0, 0, []) := rfl
theorem tX0_copyFrom_13 : tbX0_copyFrom 13 = (.aaload, 14, 0, 0, 0, 0, []) := rfl
theorem tX0_copyFrom_14 : tbX0_copyFrom 14 = (.aload_n 1, 15, 0, 0, 0, 0, []) := rfl
theorem tX0_copyFrom_15 : tbX0_copyFrom 15 = (.getfield 11, 18, 0, 0, 0, 0, [(0, 0)]) := rfl
theorem tX0_copyFrom_18 : tbX0_copyFrom 18 = (.iload_n 2, 19, 0, 0, 0, 0, []) := rfl
theorem tX0_copyFrom_19 : tbX0_copyFrom 19 = (.aaload, 20, 0, 0, 0, 0, []) := rfl
theorem tX0_copyFrom_20 : tbX0_copyFrom 20 = (.invokevirtual 52, 23, 58, 1, 4, 0, []) := rfl
theorem tX0_copyFrom_23 : tbX0_copyFrom 23 = (.iinc 2 1, 26, 0, 0, 0, 1, []) := rfl
theorem tX0_copyFrom_26 : tbX0_copyFrom 26 = (.goto (-24), 29, 2, 0, 0, 0, []) := rfl
theorem tX0_copyFrom_29 : tbX0_copyFrom 29 = (.iconst 0, 30, 0, 0, 0, 0, []) := rfl
theorem tX0_copyFrom_30 : tbX0_copyFrom 30 = (.istore_n 2, 31, 0, 0, 0, 0, []) := rfl
theorem tX0_copyFrom_31 : tbX0_copyFrom 31 = (.iload_n 2, 32, 0, 0, 0, 0, []) := rfl
theorem tX0_copyFrom_32 : tbX0_copyFrom 32 = (.bipush 16, 34, 0, 0, 0, 16, []) := rfl
theorem tX0_copyFrom_34 : tbX0_copyFrom 34 = (.if_icmp .ge 24, 37, 58, 0, 0, 0, []) := rfl
theorem tX0_copyFrom_37 : tbX0_copyFrom 37 = (.aload_n 0, 38, 0, 0, 0, 0, []) := rfl
theorem tX0_copyFrom_38 : tbX0_copyFrom 38 = (.getfield 20, 41, 0, 1, 0, 0, [(0, 0)]) := rfl
theorem tX0_copyFrom_41 : tbX0_copyFrom 41 = (.iload_n 2, 42, 0, 0, 0, 0, []) := rfl
theorem tX0_copyFrom_42 : tbX0_copyFrom 42 = (.aaload, 43, 0, 0, 0, 0, []) := rfl
theorem tX0_copyFrom_43 : tbX0_copyFrom 43 = (.aload_n 1, 44, 0, 0, 0, 0, []) := rfl
theorem tX0_copyFrom_44 : tbX0_copyFrom 44 = (.getfield 20, 47, 0, 1, 0, 0, [(0, 0)]) := rfl
theorem tX0_copyFrom_47 : tbX0_copyFrom 47 = (.iload_n 2, 48, 0, 0, 0, 0, []) := rfl
theorem tX0_copyFrom_48 : tbX0_copyFrom 48 = (.aaload, 49, 0, 0, 0, 0, []) := rfl
theorem tX0_copyFrom_49 : tbX0_copyFrom 49 = (.invokevirtual 56, 52, 56, 1, 3, 0, []) := rfl
theorem tX0_copyFrom_52 : tbX0_copyFrom 52 = (.iinc 2 1, 55, 0, 0, 0, 1, []) := rfl
theorem tX0_copyFrom_55 : tbX0_copyFrom 55 = (.goto (-24), 58, 31, 0, 0, 0, []) := rfl
theorem tX0_copyFrom_58 : tbX0_copyFrom 58 = (.aload_n 0, 59, 0, 0, 0, 0, []) := rfl
theorem tX0_copyFrom_59 : tbX0_copyFrom 59 = (.aload_n 1, 60, 0, 0, 0, 0, []) := rfl
theorem tX0_copyFrom_60 : tbX0_copyFrom 60 = (.getfield 46, 63, 0, 2, 0, 0, []) := rfl
theorem tX0_copyFrom_63 : tbX0_copyFrom 63 = (.putfield 46, 66, 0, 2, 0, 0, []) := rfl
theorem tX0_copyFrom_66 : tbX0_copyFrom 66 = (.aload_n 0, 67, 0, 0, 0, 0, []) := rfl
theorem tX0_copyFrom_67 : tbX0_copyFrom 67 = (.aload_n 1, 68, 0, 0, 0, 0, []) := rfl
theorem tX0_copyFrom_68 : tbX0_copyFrom 68 = (.getfield 59, 71, 0, 3, 0, 0, []) := rfl
theorem tX0_copyFrom_71 : tbX0_copyFrom 71 = (.putfield 59, 74, 0, 3, 0, 0, []) := rfl
theorem tX0_copyFrom_74 : tbX0_copyFrom 74 = (.aload_n 0, 75, 0, 0, 0, 0, []) := rfl
theorem tX0_copyFrom_75 : tbX0_copyFrom 75 = (.aload_n 1, 76, 0, 0, 0, 0, []) := rfl
theorem tX0_copyFrom_76 : tbX0_copyFrom 76 = (.getfield 62, 79, 0, 4, 0, 0, []) := rfl
theorem tX0_copyFrom_79 : tbX0_copyFrom 79 = (.putfield 62, 82, 0, 4, 0, 0, []) := rfl
theorem tX0_copyFrom_82 : tbX0_copyFrom 82 = (.aload_n 0, 83, 0, 0, 0, 0, []) := rfl
theorem tX0_copyFrom_83 : tbX0_copyFrom 83 = (.aload_n 1, 84, 0, 0, 0, 0, []) := rfl
theorem tX0_copyFrom_84 : tbX0_copyFrom 84 = (.getfield 65, 87, 0, 5, 0, 0, []) := rfl
theorem tX0_copyFrom_87 : tbX0_copyFrom 87 = (.putfield 65, 90, 0, 5, 0, 0, []) := rfl
theorem tX0_copyFrom_90 : tbX0_copyFrom 90 = (.aload_n 0, 91, 0, 0, 0, 0, []) := rfl
theorem tX0_copyFrom_91 : tbX0_copyFrom 91 = (.aload_n 1, 92, 0, 0, 0, 0, []) := rfl
theorem tX0_copyFrom_92 : tbX0_copyFrom 92 = (.getfield 68, 95, 0, 6, 0, 0, []) := rfl
theorem tX0_copyFrom_95 : tbX0_copyFrom 95 = (.putfield 68, 98, 0, 6, 0, 0, []) := rfl
theorem tX0_copyFrom_98 : tbX0_copyFrom 98 = (.aload_n 0, 99, 0, 0, 0, 0, []) := rfl
theorem tX0_copyFrom_99 : tbX0_copyFrom 99 = (.aload_n 1, 100, 0, 0, 0, 0, []) := rfl
theorem tX0_copyFrom_100 : tbX0_copyFrom 100 = (.getfield 49, 103, 0, 7, 0, 0, []) := rfl
theorem tX0_copyFrom_103 : tbX0_copyFrom 103 = (.putfield 49, 106, 0, 7, 0, 0, []) := rfl
theorem tX0_copyFrom_106 : tbX0_copyFrom 106 = (.aload_n 0, 107, 0, 0, 0, 0, []) := rfl
theorem tX0_copyFrom_107 : tbX0_copyFrom 107 = (.aload_n 1, 108, 0, 0, 0, 0, []) := rfl
theorem tX0_copyFrom_108 : tbX0_copyFrom 108 = (.getfield 71, 111, 0, 8, 0, 0, []) := rfl
theorem tX0_copyFrom_111 : tbX0_copyFrom 111 = (.putfield 71, 114, 0, 8, 0, 0, []) := rfl
theorem tX0_copyFrom_114 : tbX0_copyFrom 114 = (.aload_n 0, 115, 0, 0, 0, 0, []) := rfl
theorem tX0_copyFrom_115 : tbX0_copyFrom 115 = (.getfield 28, 118, 0, 9, 0, 0, [(0, 0)]) := rfl
theorem tX0_copyFrom_118 : tbX0_copyFrom 118 = (.aload_n 1, 119, 0, 0, 0, 0, []) := rfl
theorem tX0_copyFrom_119 : tbX0_copyFrom 119 = (.getfield 28, 122, 0, 9, 0, 0, [(0, 0)]) := rfl
theorem tX0_copyFrom_122 : tbX0_copyFrom 122 = (.invokevirtual 74, 125, 64, 1, 5, 0, []) := rfl
theorem tX0_copyFrom_125 : tbX0_copyFrom 125 = (.aload_n 0, 126, 0, 0, 0, 0, []) := rfl
theorem tX0_copyFrom_126 : tbX0_copyFrom 126 = (.getfield 32, 129, 0, 10, 0, 0, [(0, 0)]) := rfl
theorem tX0_copyFrom_129 : tbX0_copyFrom 129 = (.aload_n 1, 130, 0, 0, 0, 0, []) := rfl
theorem tX0_copyFrom_130 : tbX0_copyFrom 130 = (.getfield 32, 133, 0, 10, 0, 0, [(0, 0)]) := rfl
theorem tX0_copyFrom_133 : tbX0_copyFrom 133 = (.invokevirtual 74, 136, 64, 1, 5, 0, []) := rfl
theorem tX0_copyFrom_136 : tbX0_copyFrom 136 = (.return_, 137, 0, 0, 0, 0, []) := rfl
def ltX0_hasNode : List (Nat × pm_E) := [(0, .iload_n 1, 1, 0, 0, 0, 0, []), (1, .ifCond .lt 15, 4, 16, 0, 0, 0, []), (4, .iload_n 1, 5, 0, 0, 0, 0, []), (5, .aload_n 0, 6, 0, 0, 0, 0, []), (6, .getfield 46, 9, 0, 2, 0, 0, []), (9, .if_icmp .ge 7, 12, 16, 0, 0, 0, []), (12, .iconst 1, 13, 0, 0, 0, 1, []), (13, .goto 4, 16, 17, 0, 0, 0, []), (16, .iconst 0, 17, 0, 0, 0, 0, []), (17, .ireturn, 18, 0, 0, 0, 0, [])]
def tbX0_hasNode : Nat → pm_E := pm_lk ltX0_hasNode
theorem okX0_hasNode : ∀ pc, (tbX0_hasNode pc).1 = .nop ∨ pm_ok mX0_hasNode pw_Ms pc (tbX0_hasNode pc) := pm_lk_ok (by decide +kernel)
theorem nr_X0_hasNode : mX0_hasNode.2.2.2 = (some .boolean) := rfl
theorem tX0_hasNode_0 : tbX0_hasNode 0 = (.iload_n 1, 1, 0, 0, 0, 0, []) := rfl
theorem tX0_hasNode_1 : tbX0_hasNode 1 = (.ifCond .lt 15, 4, 16, 0, 0, 0, []) := rfl
theorem tX0_hasNode_4 : tbX0_hasNode 4 = (.iload_n 1, 5, 0, 0, 0, 0, []) := rfl
theorem tX0_hasNode_5 : tbX0_hasNode 5 = (.aload_n 0, 6, 0, 0, 0, 0, []) := rfl
theorem tX0_hasNode_6 : tbX0_hasNode 6 = (.getfield 46, 9, 0, 2, 0, 0, []) := rfl
theorem tX0_hasNode_9 : tbX0_hasNode 9 = (.if_icmp .ge 7, 12, 16, 0, 0, 0, []) := rfl
theorem tX0_hasNode_12 : tbX0_hasNode 12 = (.iconst 1, 13, 0, 0, 0, 1, []) := rfl
theorem tX0_hasNode_13 : tbX0_hasNode 13 = (.goto 4, 16, 17, 0, 0, 0, []) := rfl
theorem tX0_hasNode_16 : tbX0_hasNode 16 = (.iconst 0, 17, 0, 0, 0, 0, []) := rfl
theorem tX0_hasNode_17 : tbX0_hasNode 17 = (.ireturn, 18, 0, 0, 0, 0, []) := rfl
def ltX0_hasLine : List (Nat × pm_E) := [(0, .iload_n 1, 1, 0, 0, 0, 0, []), (1, .ifCond .lt 15, 4, 16, 0, 0, 0, []), (4, .iload_n 1, 5, 0, 0, 0, 0, []), (5, .aload_n 0, 6, 0, 0, 0, 0, []), (6, .getfield 59, 9, 0, 3, 0, 0, []), (9, .if_icmp .ge 7, 12, 16, 0, 0, 0, []), (12, .iconst 1, 13, 0, 0, 0, 1, []), (13, .goto 4, 16, 17, 0, 0, 0, []), (16, .iconst 0, 17, 0, 0, 0, 0, []), (17, .ireturn, 18, 0, 0, 0, 0, [])]
def tbX0_hasLine : Nat → pm_E := pm_lk ltX0_hasLine
theorem okX0_hasLine : ∀ pc, (tbX0_hasLine pc).1 = .nop ∨ pm_ok mX0_hasLine pw_Ms pc (tbX0_hasLine pc) := pm_lk_ok (by decide +kernel)
theorem nr_X0_hasLine : mX0_hasLine.2.2.2 = (some .boolean) := rfl
theorem tX0_hasLine_0 : tbX0_hasLine 0 = (.iload_n 1, 1, 0, 0, 0, 0, []) := rfl
theorem tX0_hasLine_1 : tbX0_hasLine 1 = (.ifCond .lt 15, 4, 16, 0, 0, 0, []) := rfl
theorem tX0_hasLine_4 : tbX0_hasLine 4 = (.iload_n 1, 5, 0, 0, 0, 0, []) := rfl
theorem tX0_hasLine_5 : tbX0_hasLine 5 = (.aload_n 0, 6, 0, 0, 0, 0, []) := rfl
theorem tX0_hasLine_6 : tbX0_hasLine 6 = (.getfield 59, 9, 0, 3, 0, 0, []) := rfl
theorem tX0_hasLine_9 : tbX0_hasLine 9 = (.if_icmp .ge 7, 12, 16, 0, 0, 0, []) := rfl
theorem tX0_hasLine_12 : tbX0_hasLine 12 = (.iconst 1, 13, 0, 0, 0, 1, []) := rfl
theorem tX0_hasLine_13 : tbX0_hasLine 13 = (.goto 4, 16, 17, 0, 0, 0, []) := rfl
theorem tX0_hasLine_16 : tbX0_hasLine 16 = (.iconst 0, 17, 0, 0, 0, 0, []) := rfl
theorem tX0_hasLine_17 : tbX0_hasLine 17 = (.ireturn, 18, 0, 0, 0, 0, []) := rfl
def ltX0_addNode : List (Nat × pm_E) := [(0, .aload_n 0, 1, 0, 0, 0, 0, []), (1, .iload_n 1, 2, 0, 0, 0, 0, []), (2, .invokevirtual 77, 5, 2, 1, 0, 0, []), (5, .ifCond .eq 10, 8, 15, 0, 0, 0, []), (8, .iload_n 2, 9, 0, 0, 0, 0, []), (9, .invokestatic 81, 12, 91, 1, 0, 0, []), (12, .ifCond .ne 5, 15, 17, 0, 0, 0, []), (15, .iconst (-1), 16, 0, 0, 0, -1, []), (16, .ireturn, 17, 0, 0, 0, 0, []), (17, .aload_n 0, 18, 0, 0, 0, 0, []), (18, .getfield 46, 21, 0, 2, 0, 0, []), (21, .bipush 6, 23, 0, 0, 0, 6, []), (23, .if_icmp .lt 6, 26, 29, 0, 0, 0, []), (26, .bipush (-3), 28, 0, 0, 0, -3, []), (28, .ireturn, 29, 0, 0, 0, 0, []), (29, .aload_n 0, 30, 0, 0, 0, 0, []), (30, .getfield 46, 33, 0, 2, 0, 0, []), (33, .istore_n 3, 34, 0, 0, 0, 0, []), (34, .aload_n 0, 35, 0, 0, 0, 0, []), (35, .getfield 11, 38, 0, 0, 0, 0, [(0, 0)]), (38, .iload_n 3, 39, 0, 0, 0, 0, []), (39, .aaload, 40, 0, 0, 0, 0, []), (40, .astore 4, 42, 0, 0, 0, 0, []), (42, .aload 4, 44, 0, 0, 0, 0, []), (44, .iload_n 1, 45, 0, 0, 0, 0, []), (45, .putfield 39, 48, 4, 1, 0, 0, []), (48, .aload 4, 50, 0, 0, 0, 0, []), (50, .iload_n 2, 51, 0, 0, 0, 0, []), (51, .iconst 1, 52, 0, 0, 0, 1, []), (52, .if_icmp .ne 7, 55, 59, 0, 0, 0, []), (55, .iconst 1, 56, 0, 0, 0, 1, []), (56, .goto 4, 59, 60, 0, 0, 0, []), (59, .iconst 0, 60, 0, 0, 0, 0, []), (60, .putfield 84, 63, 4, 2, 0, 0, [(0, 0)]), (63, .aload 4, 65, 0, 0, 0, 0, []), (65, .aload_n 0, 66, 0, 0, 0, 0, []), (66, .getfield 11, 69, 0, 0, 0, 0, [(0, 0)]), (69, .iload_n 1, 70, 0, 0, 0, 0, []), (70, .aaload, 71, 0, 0, 0, 0, []), (71, .getfield 43, 74, 4, 3, 0, 0, []), (74, .iconst 1, 75, 0, 0, 0, 1, []), (75, .iload_n 3, 76, 0, 0, 0, 0, []), (76, .ishl, 77, 0, 0, 0, 0, []), (77, .ior, 78, 0, 0, 0, 0, []), (78, .putfield 43, 81, 4, 3, 0, 0, []), (81, .aload_n 0, 82, 0, 0, 0, 0, []), (82, .getfield 11, 85, 0, 0, 0, 0, [(0, 0)]), (85, .iload_n 1, 86, 0, 0, 0, 0, []), (86, .aaload, 87, 0, 0, 0, 0, []), (87, .getfield 88, 90, 4, 0, 0, 0, [(0, 0)]), (90, .astore 5, 92, 0, 0, 0, 0, []), (92, .aload 5, 94, 0, 0, 0, 0, []), (94, .aload 5, 96, 0, 0, 0, 0, []), (96, .getfield 91, 99, 5, 1, 0, 0, []), (99, .bipush 100, 101, 0, 0, 0, 100, []), (101, .iload_n 3, 102, 0, 0, 0, 0, []), (102, .iadd, 103, 0, 0, 0, 0, []), (103, .invokevirtual 94, 106, 61, 2, 5, 0, []), (106, .aload_n 0, 107, 0, 0, 0, 0, []), (107, .dup, 108, 0, 0, 0, 0, []), (108, .getfield 46, 111, 0, 2, 0, 0, []), (111, .iconst 1, 112, 0, 0, 0, 1, []), (112, .iadd, 113, 0, 0, 0, 0, []), (113, .putfield 46, 116, 0, 2, 0, 0, []), (116, .iload_n 3, 117, 0, 0, 0, 0, []), (117, .ireturn, 118, 0, 0, 0, 0, [])]
def tbX0_addNode : Nat → pm_E := pm_lk ltX0_addNode
theorem okX0_addNode : ∀ pc, (tbX0_addNode pc).1 = .nop ∨ pm_ok mX0_addNode pw_Ms pc (tbX0_addNode pc) := pm_lk_ok (by decide +kernel)
theorem nr_X0_addNode : mX0_addNode.2.2.2 = (some .int) := rfl
theorem tX0_addNode_0 : tbX0_addNode 0 = (.aload_n 0, 1, 0, 0, 0, 0, []) := rfl
theorem tX0_addNode_1 : tbX0_addNode 1 = (.iload_n 1, 2, 0, 0, 0, 0, []) := rfl
theorem tX0_addNode_2 : tbX0_addNode 2 = (.invokevirtual 77, 5, 2, 1, 0, 0, []) := rfl
theorem tX0_addNode_5 : tbX0_addNode 5 = (.ifCond .eq 10, 8, 15, 0, 0, 0, []) := rfl
theorem tX0_addNode_8 : tbX0_addNode 8 = (.iload_n 2, 9, 0, 0, 0, 0, []) := rfl
theorem tX0_addNode_9 : tbX0_addNode 9 = (.invokestatic 81, 12, 91, 1, 0, 0, []) := rfl
theorem tX0_addNode_12 : tbX0_addNode 12 = (.ifCond .ne 5, 15, 17, 0, 0, 0, []) := rfl
theorem tX0_addNode_15 : tbX0_addNode 15 = (.iconst (-1), 16, 0, 0, 0, -1, []) := rfl
theorem tX0_addNode_16 : tbX0_addNode 16 = (.ireturn, 17, 0, 0, 0, 0, []) := rfl
theorem tX0_addNode_17 : tbX0_addNode 17 = (.aload_n 0, 18, 0, 0, 0, 0, []) := rfl
theorem tX0_addNode_18 : tbX0_addNode 18 = (.getfield 46, 21, 0, 2, 0, 0, []) := rfl
theorem tX0_addNode_21 : tbX0_addNode 21 = (.bipush 6, 23, 0, 0, 0, 6, []) := rfl
theorem tX0_addNode_23 : tbX0_addNode 23 = (.if_icmp .lt 6, 26, 29, 0, 0, 0, []) := rfl
theorem tX0_addNode_26 : tbX0_addNode 26 = (.bipush (-3), 28, 0, 0, 0, -3, []) := rfl
theorem tX0_addNode_28 : tbX0_addNode 28 = (.ireturn, 29, 0, 0, 0, 0, []) := rfl
theorem tX0_addNode_29 : tbX0_addNode 29 = (.aload_n 0, 30, 0, 0, 0, 0, []) := rfl
theorem tX0_addNode_30 : tbX0_addNode 30 = (.getfield 46, 33, 0, 2, 0, 0, []) := rfl
theorem tX0_addNode_33 : tbX0_addNode 33 = (.istore_n 3, 34, 0, 0, 0, 0, []) := rfl
theorem tX0_addNode_34 : tbX0_addNode 34 = (.aload_n 0, 35, 0, 0, 0, 0, []) := rfl
theorem tX0_addNode_35 : tbX0_addNode 35 = (.getfield 11, 38, 0, 0, 0, 0, [(0, 0)]) := rfl
theorem tX0_addNode_38 : tbX0_addNode 38 = (.iload_n 3, 39, 0, 0, 0, 0, []) := rfl
theorem tX0_addNode_39 : tbX0_addNode 39 = (.aaload, 40, 0, 0, 0, 0, []) := rfl
theorem tX0_addNode_40 : tbX0_addNode 40 = (.astore 4, 42, 0, 0, 0, 0, []) := rfl
theorem tX0_addNode_42 : tbX0_addNode 42 = (.aload 4, 44, 0, 0, 0, 0, []) := rfl
theorem tX0_addNode_44 : tbX0_addNode 44 = (.iload_n 1, 45, 0, 0, 0, 0, []) := rfl
theorem tX0_addNode_45 : tbX0_addNode 45 = (.putfield 39, 48, 4, 1, 0, 0, []) := rfl
theorem tX0_addNode_48 : tbX0_addNode 48 = (.aload 4, 50, 0, 0, 0, 0, []) := rfl
theorem tX0_addNode_50 : tbX0_addNode 50 = (.iload_n 2, 51, 0, 0, 0, 0, []) := rfl
theorem tX0_addNode_51 : tbX0_addNode 51 = (.iconst 1, 52, 0, 0, 0, 1, []) := rfl
theorem tX0_addNode_52 : tbX0_addNode 52 = (.if_icmp .ne 7, 55, 59, 0, 0, 0, []) := rfl
theorem tX0_addNode_55 : tbX0_addNode 55 = (.iconst 1, 56, 0, 0, 0, 1, []) := rfl
theorem tX0_addNode_56 : tbX0_addNode 56 = (.goto 4, 59, 60, 0, 0, 0, []) := rfl
theorem tX0_addNode_59 : tbX0_addNode 59 = (.iconst 0, 60, 0, 0, 0, 0, []) := rfl
theorem tX0_addNode_60 : tbX0_addNode 60 = (.putfield 84, 63, 4, 2, 0, 0, [(0, 0)]) := rfl
theorem tX0_addNode_63 : tbX0_addNode 63 = (.aload 4, 65, 0, 0, 0, 0, []) := rfl
theorem tX0_addNode_65 : tbX0_addNode 65 = (.aload_n 0, 66, 0, 0, 0, 0, []) := rfl
theorem tX0_addNode_66 : tbX0_addNode 66 = (.getfield 11, 69, 0, 0, 0, 0, [(0, 0)]) := rfl
theorem tX0_addNode_69 : tbX0_addNode 69 = (.iload_n 1, 70, 0, 0, 0, 0, []) := rfl
theorem tX0_addNode_70 : tbX0_addNode 70 = (.aaload, 71, 0, 0, 0, 0, []) := rfl
theorem tX0_addNode_71 : tbX0_addNode 71 = (.getfield 43, 74, 4, 3, 0, 0, []) := rfl
theorem tX0_addNode_74 : tbX0_addNode 74 = (.iconst 1, 75, 0, 0, 0, 1, []) := rfl
theorem tX0_addNode_75 : tbX0_addNode 75 = (.iload_n 3, 76, 0, 0, 0, 0, []) := rfl
theorem tX0_addNode_76 : tbX0_addNode 76 = (.ishl, 77, 0, 0, 0, 0, []) := rfl
theorem tX0_addNode_77 : tbX0_addNode 77 = (.ior, 78, 0, 0, 0, 0, []) := rfl
theorem tX0_addNode_78 : tbX0_addNode 78 = (.putfield 43, 81, 4, 3, 0, 0, []) := rfl
theorem tX0_addNode_81 : tbX0_addNode 81 = (.aload_n 0, 82, 0, 0, 0, 0, []) := rfl
theorem tX0_addNode_82 : tbX0_addNode 82 = (.getfield 11, 85, 0, 0, 0, 0, [(0, 0)]) := rfl
theorem tX0_addNode_85 : tbX0_addNode 85 = (.iload_n 1, 86, 0, 0, 0, 0, []) := rfl
theorem tX0_addNode_86 : tbX0_addNode 86 = (.aaload, 87, 0, 0, 0, 0, []) := rfl
theorem tX0_addNode_87 : tbX0_addNode 87 = (.getfield 88, 90, 4, 0, 0, 0, [(0, 0)]) := rfl
theorem tX0_addNode_90 : tbX0_addNode 90 = (.astore 5, 92, 0, 0, 0, 0, []) := rfl
theorem tX0_addNode_92 : tbX0_addNode 92 = (.aload 5, 94, 0, 0, 0, 0, []) := rfl
theorem tX0_addNode_94 : tbX0_addNode 94 = (.aload 5, 96, 0, 0, 0, 0, []) := rfl
theorem tX0_addNode_96 : tbX0_addNode 96 = (.getfield 91, 99, 5, 1, 0, 0, []) := rfl
theorem tX0_addNode_99 : tbX0_addNode 99 = (.bipush 100, 101, 0, 0, 0, 100, []) := rfl
theorem tX0_addNode_101 : tbX0_addNode 101 = (.iload_n 3, 102, 0, 0, 0, 0, []) := rfl
theorem tX0_addNode_102 : tbX0_addNode 102 = (.iadd, 103, 0, 0, 0, 0, []) := rfl
theorem tX0_addNode_103 : tbX0_addNode 103 = (.invokevirtual 94, 106, 61, 2, 5, 0, []) := rfl
theorem tX0_addNode_106 : tbX0_addNode 106 = (.aload_n 0, 107, 0, 0, 0, 0, []) := rfl
theorem tX0_addNode_107 : tbX0_addNode 107 = (.dup, 108, 0, 0, 0, 0, []) := rfl
theorem tX0_addNode_108 : tbX0_addNode 108 = (.getfield 46, 111, 0, 2, 0, 0, []) := rfl
theorem tX0_addNode_111 : tbX0_addNode 111 = (.iconst 1, 112, 0, 0, 0, 1, []) := rfl
theorem tX0_addNode_112 : tbX0_addNode 112 = (.iadd, 113, 0, 0, 0, 0, []) := rfl
theorem tX0_addNode_113 : tbX0_addNode 113 = (.putfield 46, 116, 0, 2, 0, 0, []) := rfl
theorem tX0_addNode_116 : tbX0_addNode 116 = (.iload_n 3, 117, 0, 0, 0, 0, []) := rfl
theorem tX0_addNode_117 : tbX0_addNode 117 = (.ireturn, 118, 0, 0, 0, 0, []) := rfl
def ltX0_addLine : List (Nat × pm_E) := [(0, .aload_n 0, 1, 0, 0, 0, 0, []), (1, .iload_n 1, 2, 0, 0, 0, 0, []), (2, .invokevirtual 77, 5, 2, 1, 0, 0, []), (5, .ifCond .eq 20, 8, 25, 0, 0, 0, []), (8, .iload_n 2, 9, 0, 0, 0, 0, []), (9, .ifCond .lt 16, 12, 25, 0, 0, 0, []), (12, .iload_n 2, 13, 0, 0, 0, 0, []), (13, .bipush 7, 15, 0, 0, 0, 7, []), (15, .if_icmp .gt 10, 18, 25, 0, 0, 0, []), (18, .iload_n 3, 19, 0, 0, 0, 0, []), (19, .invokestatic 81, 22, 91, 1, 0, 0, []), (22, .ifCond .ne 5, 25, 27, 0, 0, 0, []), (25, .iconst (-1), 26, 0, 0, 0, -1, []), (26, .ireturn, 27, 0, 0, 0, 0, []), (27, .aload_n 0, 28, 0, 0, 0, 0, []), (28, .getfield 59, 31, 0, 3, 0, 0, []), (31, .bipush 16, 33, 0, 0, 0, 16, []), (33, .if_icmp .lt 6, 36, 39, 0, 0, 0, []), (36, .bipush (-3), 38, 0, 0, 0, -3, []), (38, .ireturn, 39, 0, 0, 0, 0, []), (39, .aload_n 0, 40, 0, 0, 0, 0, []), (40, .getfield 59, 43, 0, 3, 0, 0, []), (43, .istore 4, 45, 0, 0, 0, 0, []), (45, .aload_n 0, 46, 0, 0, 0, 0, []), (46, .getfield 20, 49, 0, 1, 0, 0, [(0, 0)]), (49, .iload 4, 51, 0, 0, 0, 0, []), (51, .aaload, 52, 0, 0, 0, 0, []), (52, .astore 5, 54, 0, 0, 0, 0, []), (54, .aload 5, 56, 0, 0, 0, 0, []), (56, .iload_n 1, 57, 0, 0, 0, 0, []), (57, .putfield 98, 60, 3, 0, 0, 0, []), (60, .aload 5, 62, 0, 0, 0, 0, []), (62, .iload_n 2, 63, 0, 0, 0, 0, []), (63, .putfield 101, 66, 3, 1, 0, 0, []), (66, .aload 5, 68, 0, 0, 0, 0, []), (68, .iload_n 3, 69, 0, 0, 0, 0, []), (69, .iconst 1, 70, 0, 0, 0, 1, []), (70, .if_icmp .ne 7, 73, 77, 0, 0, 0, []), (73, .iconst 1, 74, 0, 0, 0, 1, []), (74, .goto 4, 77, 78, 0, 0, 0, []), (77, .iconst 0, 78, 0, 0, 0, 0, []), (78, .putfield 104, 81, 3, 2, 0, 0, [(0, 0)]), (81, .aload_n 0, 82, 0, 0, 0, 0, []), (82, .getfield 11, 85, 0, 0, 0, 0, [(0, 0)]), (85, .iload_n 1, 86, 0, 0, 0, 0, []), (86, .aaload, 87, 0, 0, 0, 0, []), (87, .getfield 88, 90, 4, 0, 0, 0, [(0, 0)]), (90, .astore 6, 92, 0, 0, 0, 0, []), (92, .aload 6, 94, 0, 0, 0, 0, []), (94, .aload 6, 96, 0, 0, 0, 0, []), (96, .getfield 91, 99, 5, 1, 0, 0, []), (99, .iload 4, 101, 0, 0, 0, 0, []), (101, .invokevirtual 94, 104, 61, 2, 5, 0, []), (104, .aload_n 0, 105, 0, 0, 0, 0, []), (105, .dup, 106, 0, 0, 0, 0, []), (106, .getfield 59, 109, 0, 3, 0, 0, []), (109, .iconst 1, 110, 0, 0, 0, 1, []), (110, .iadd, 111, 0, 0, 0, 0, []), (111, .putfield 59, 114, 0, 3, 0, 0, []), (114, .iload 4, 116, 0, 0, 0, 0, []), (116, .ireturn, 117, 0, 0, 0, 0, [])]
def tbX0_addLine : Nat → pm_E := pm_lk ltX0_addLine
theorem okX0_addLine : ∀ pc, (tbX0_addLine pc).1 = .nop ∨ pm_ok mX0_addLine pw_Ms pc (tbX0_addLine pc) := pm_lk_ok (by decide +kernel)
theorem nr_X0_addLine : mX0_addLine.2.2.2 = (some .int) := rfl
theorem tX0_addLine_0 : tbX0_addLine 0 = (.aload_n 0, 1, 0, 0, 0, 0, []) := rfl
theorem tX0_addLine_1 : tbX0_addLine 1 = (.iload_n 1, 2, 0, 0, 0, 0, []) := rfl
theorem tX0_addLine_2 : tbX0_addLine 2 = (.invokevirtual 77, 5, 2, 1, 0, 0, []) := rfl
theorem tX0_addLine_5 : tbX0_addLine 5 = (.ifCond .eq 20, 8, 25, 0, 0, 0, []) := rfl
theorem tX0_addLine_8 : tbX0_addLine 8 = (.iload_n 2, 9, 0, 0, 0, 0, []) := rfl
theorem tX0_addLine_9 : tbX0_addLine 9 = (.ifCond .lt 16, 12, 25, 0, 0, 0, []) := rfl
theorem tX0_addLine_12 : tbX0_addLine 12 = (.iload_n 2, 13, 0, 0, 0, 0, []) := rfl
theorem tX0_addLine_13 : tbX0_addLine 13 = (.bipush 7, 15, 0, 0, 0, 7, []) := rfl
theorem tX0_addLine_15 : tbX0_addLine 15 = (.if_icmp .gt 10, 18, 25, 0, 0, 0, []) := rfl
theorem tX0_addLine_18 : tbX0_addLine 18 = (.iload_n 3, 19, 0, 0, 0, 0, []) := rfl
theorem tX0_addLine_19 : tbX0_addLine 19 = (.invokestatic 81, 22, 91, 1, 0, 0, []) := rfl
theorem tX0_addLine_22 : tbX0_addLine 22 = (.ifCond .ne 5, 25, 27, 0, 0, 0, []) := rfl
theorem tX0_addLine_25 : tbX0_addLine 25 = (.iconst (-1), 26, 0, 0, 0, -1, []) := rfl
theorem tX0_addLine_26 : tbX0_addLine 26 = (.ireturn, 27, 0, 0, 0, 0, []) := rfl
theorem tX0_addLine_27 : tbX0_addLine 27 = (.aload_n 0, 28, 0, 0, 0, 0, []) := rfl
theorem tX0_addLine_28 : tbX0_addLine 28 = (.getfield 59, 31, 0, 3, 0, 0, []) := rfl
theorem tX0_addLine_31 : tbX0_addLine 31 = (.bipush 16, 33, 0, 0, 0, 16, []) := rfl
theorem tX0_addLine_33 : tbX0_addLine 33 = (.if_icmp .lt 6, 36, 39, 0, 0, 0, []) := rfl
theorem tX0_addLine_36 : tbX0_addLine 36 = (.bipush (-3), 38, 0, 0, 0, -3, []) := rfl
theorem tX0_addLine_38 : tbX0_addLine 38 = (.ireturn, 39, 0, 0, 0, 0, []) := rfl
theorem tX0_addLine_39 : tbX0_addLine 39 = (.aload_n 0, 40, 0, 0, 0, 0, []) := rfl
theorem tX0_addLine_40 : tbX0_addLine 40 = (.getfield 59, 43, 0, 3, 0, 0, []) := rfl
theorem tX0_addLine_43 : tbX0_addLine 43 = (.istore 4, 45, 0, 0, 0, 0, []) := rfl
theorem tX0_addLine_45 : tbX0_addLine 45 = (.aload_n 0, 46, 0, 0, 0, 0, []) := rfl
theorem tX0_addLine_46 : tbX0_addLine 46 = (.getfield 20, 49, 0, 1, 0, 0, [(0, 0)]) := rfl
theorem tX0_addLine_49 : tbX0_addLine 49 = (.iload 4, 51, 0, 0, 0, 0, []) := rfl
theorem tX0_addLine_51 : tbX0_addLine 51 = (.aaload, 52, 0, 0, 0, 0, []) := rfl
theorem tX0_addLine_52 : tbX0_addLine 52 = (.astore 5, 54, 0, 0, 0, 0, []) := rfl
theorem tX0_addLine_54 : tbX0_addLine 54 = (.aload 5, 56, 0, 0, 0, 0, []) := rfl
theorem tX0_addLine_56 : tbX0_addLine 56 = (.iload_n 1, 57, 0, 0, 0, 0, []) := rfl
theorem tX0_addLine_57 : tbX0_addLine 57 = (.putfield 98, 60, 3, 0, 0, 0, []) := rfl
theorem tX0_addLine_60 : tbX0_addLine 60 = (.aload 5, 62, 0, 0, 0, 0, []) := rfl
theorem tX0_addLine_62 : tbX0_addLine 62 = (.iload_n 2, 63, 0, 0, 0, 0, []) := rfl
theorem tX0_addLine_63 : tbX0_addLine 63 = (.putfield 101, 66, 3, 1, 0, 0, []) := rfl
theorem tX0_addLine_66 : tbX0_addLine 66 = (.aload 5, 68, 0, 0, 0, 0, []) := rfl
theorem tX0_addLine_68 : tbX0_addLine 68 = (.iload_n 3, 69, 0, 0, 0, 0, []) := rfl
theorem tX0_addLine_69 : tbX0_addLine 69 = (.iconst 1, 70, 0, 0, 0, 1, []) := rfl
theorem tX0_addLine_70 : tbX0_addLine 70 = (.if_icmp .ne 7, 73, 77, 0, 0, 0, []) := rfl
theorem tX0_addLine_73 : tbX0_addLine 73 = (.iconst 1, 74, 0, 0, 0, 1, []) := rfl
theorem tX0_addLine_74 : tbX0_addLine 74 = (.goto 4, 77, 78, 0, 0, 0, []) := rfl
theorem tX0_addLine_77 : tbX0_addLine 77 = (.iconst 0, 78, 0, 0, 0, 0, []) := rfl
theorem tX0_addLine_78 : tbX0_addLine 78 = (.putfield 104, 81, 3, 2, 0, 0, [(0, 0)]) := rfl
theorem tX0_addLine_81 : tbX0_addLine 81 = (.aload_n 0, 82, 0, 0, 0, 0, []) := rfl
theorem tX0_addLine_82 : tbX0_addLine 82 = (.getfield 11, 85, 0, 0, 0, 0, [(0, 0)]) := rfl
theorem tX0_addLine_85 : tbX0_addLine 85 = (.iload_n 1, 86, 0, 0, 0, 0, []) := rfl
theorem tX0_addLine_86 : tbX0_addLine 86 = (.aaload, 87, 0, 0, 0, 0, []) := rfl
theorem tX0_addLine_87 : tbX0_addLine 87 = (.getfield 88, 90, 4, 0, 0, 0, [(0, 0)]) := rfl
theorem tX0_addLine_90 : tbX0_addLine 90 = (.astore 6, 92, 0, 0, 0, 0, []) := rfl
theorem tX0_addLine_92 : tbX0_addLine 92 = (.aload 6, 94, 0, 0, 0, 0, []) := rfl
theorem tX0_addLine_94 : tbX0_addLine 94 = (.aload 6, 96, 0, 0, 0, 0, []) := rfl
theorem tX0_addLine_96 : tbX0_addLine 96 = (.getfield 91, 99, 5, 1, 0, 0, []) := rfl
theorem tX0_addLine_99 : tbX0_addLine 99 = (.iload 4, 101, 0, 0, 0, 0, []) := rfl
theorem tX0_addLine_101 : tbX0_addLine 101 = (.invokevirtual 94, 104, 61, 2, 5, 0, []) := rfl
theorem tX0_addLine_104 : tbX0_addLine 104 = (.aload_n 0, 105, 0, 0, 0, 0, []) := rfl
theorem tX0_addLine_105 : tbX0_addLine 105 = (.dup, 106, 0, 0, 0, 0, []) := rfl
theorem tX0_addLine_106 : tbX0_addLine 106 = (.getfield 59, 109, 0, 3, 0, 0, []) := rfl
theorem tX0_addLine_109 : tbX0_addLine 109 = (.iconst 1, 110, 0, 0, 0, 1, []) := rfl
theorem tX0_addLine_110 : tbX0_addLine 110 = (.iadd, 111, 0, 0, 0, 0, []) := rfl
theorem tX0_addLine_111 : tbX0_addLine 111 = (.putfield 59, 114, 0, 3, 0, 0, []) := rfl
theorem tX0_addLine_114 : tbX0_addLine 114 = (.iload 4, 116, 0, 0, 0, 0, []) := rfl
theorem tX0_addLine_116 : tbX0_addLine 116 = (.ireturn, 117, 0, 0, 0, 0, []) := rfl
def ltX0_setLineMask : List (Nat × pm_E) := [(0, .aload_n 0, 1, 0, 0, 0, 0, []), (1, .iload_n 1, 2, 0, 0, 0, 0, []), (2, .invokevirtual 107, 5, 3, 1, 0, 0, []), (5, .ifCond .eq 10, 8, 15, 0, 0, 0, []), (8, .iload_n 2, 9, 0, 0, 0, 0, []), (9, .invokestatic 81, 12, 91, 1, 0, 0, []), (12, .ifCond .ne 5, 15, 17, 0, 0, 0, []), (15, .iconst (-1), 16, 0, 0, 0, -1, []), (16, .ireturn, 17, 0, 0, 0, 0, []), (17, .aload_n 0, 18, 0, 0, 0, 0, []), (18, .getfield 20, 21, 0, 1, 0, 0, [(0, 0)]), (21, .iload_n 1, 22, 0, 0, 0, 0, []), (22, .aaload, 23, 0, 0, 0, 0, []), (23, .getfield 110, 26, 3, 4, 0, 0, []), (26, .iload_n 2, 27, 0, 0, 0, 0, []), (27, .iconst 1, 28, 0, 0, 0, 1, []), (28, .if_icmp .ne 7, 31, 35, 0, 0, 0, []), (31, .iconst 1, 32, 0, 0, 0, 1, []), (32, .goto 4, 35, 36, 0, 0, 0, []), (35, .iconst 0, 36, 0, 0, 0, 0, []), (36, .if_icmp .ne 6, 39, 42, 0, 0, 0, []), (39, .bipush (-2), 41, 0, 0, 0, -2, []), (41, .ireturn, 42, 0, 0, 0, 0, []), (42, .aload_n 0, 43, 0, 0, 0, 0, []), (43, .getfield 20, 46, 0, 1, 0, 0, [(0, 0)]), (46, .iload_n 1, 47, 0, 0, 0, 0, []), (47, .aaload, 48, 0, 0, 0, 0, []), (48, .iload_n 2, 49, 0, 0, 0, 0, []), (49, .iconst 1, 50, 0, 0, 0, 1, []), (50, .if_icmp .ne 7, 53, 57, 0, 0, 0, []), (53, .iconst 1, 54, 0, 0, 0, 1, []), (54, .goto 4, 57, 58, 0, 0, 0, []), (57, .iconst 0, 58, 0, 0, 0, 0, []), (58, .putfield 110, 61, 3, 4, 0, 0, [(0, 0)]), (61, .aload_n 0, 62, 0, 0, 0, 0, []), (62, .invokevirtual 113, 65, 26, 0, 0, 0, []), (65, .invokestatic 117, 68, 156, 1, 0, 0, []), (68, .ireturn, 69, 0, 0, 0, 0, [])]
def tbX0_setLineMask : Nat → pm_E := pm_lk ltX0_setLineMask
theorem okX0_setLineMask : ∀ pc, (tbX0_setLineMask pc).1 = .nop ∨ pm_ok mX0_setLineMask pw_Ms pc (tbX0_setLineMask pc) := pm_lk_ok (by decide +kernel)
theorem nr_X0_setLineMask : mX0_setLineMask.2.2.2 = (some .int) := rfl
theorem tX0_setLineMask_0 : tbX0_setLineMask 0 = (.aload_n 0, 1, 0, 0, 0, 0, []) := rfl
theorem tX0_setLineMask_1 : tbX0_setLineMask 1 = (.iload_n 1, 2, 0, 0, 0, 0, []) := rfl
theorem tX0_setLineMask_2 : tbX0_setLineMask 2 = (.invokevirtual 107, 5, 3, 1, 0, 0, []) := rfl
theorem tX0_setLineMask_5 : tbX0_setLineMask 5 = (.ifCond .eq 10, 8, 15, 0, 0, 0, []) := rfl
theorem tX0_setLineMask_8 : tbX0_setLineMask 8 = (.iload_n 2, 9, 0, 0, 0, 0, []) := rfl
theorem tX0_setLineMask_9 : tbX0_setLineMask 9 = (.invokestatic 81, 12, 91, 1, 0, 0, []) := rfl
theorem tX0_setLineMask_12 : tbX0_setLineMask 12 = (.ifCond .ne 5, 15, 17, 0, 0, 0, []) := rfl
theorem tX0_setLineMask_15 : tbX0_setLineMask 15 = (.iconst (-1), 16, 0, 0, 0, -1, []) := rfl
theorem tX0_setLineMask_16 : tbX0_setLineMask 16 = (.ireturn, 17, 0, 0, 0, 0, []) := rfl
theorem tX0_setLineMask_17 : tbX0_setLineMask 17 = (.aload_n 0, 18, 0, 0, 0, 0, []) := rfl
theorem tX0_setLineMask_18 : tbX0_setLineMask 18 = (.getfield 20, 21, 0, 1, 0, 0, [(0, 0)]) := rfl
theorem tX0_setLineMask_21 : tbX0_setLineMask 21 = (.iload_n 1, 22, 0, 0, 0, 0, []) := rfl
theorem tX0_setLineMask_22 : tbX0_setLineMask 22 = (.aaload, 23, 0, 0, 0, 0, []) := rfl
theorem tX0_setLineMask_23 : tbX0_setLineMask 23 = (.getfield 110, 26, 3, 4, 0, 0, []) := rfl
theorem tX0_setLineMask_26 : tbX0_setLineMask 26 = (.iload_n 2, 27, 0, 0, 0, 0, []) := rfl
theorem tX0_setLineMask_27 : tbX0_setLineMask 27 = (.iconst 1, 28, 0, 0, 0, 1, []) := rfl
theorem tX0_setLineMask_28 : tbX0_setLineMask 28 = (.if_icmp .ne 7, 31, 35, 0, 0, 0, []) := rfl
theorem tX0_setLineMask_31 : tbX0_setLineMask 31 = (.iconst 1, 32, 0, 0, 0, 1, []) := rfl
theorem tX0_setLineMask_32 : tbX0_setLineMask 32 = (.goto 4, 35, 36, 0, 0, 0, []) := rfl
theorem tX0_setLineMask_35 : tbX0_setLineMask 35 = (.iconst 0, 36, 0, 0, 0, 0, []) := rfl
theorem tX0_setLineMask_36 : tbX0_setLineMask 36 = (.if_icmp .ne 6, 39, 42, 0, 0, 0, []) := rfl
theorem tX0_setLineMask_39 : tbX0_setLineMask 39 = (.bipush (-2), 41, 0, 0, 0, -2, []) := rfl
theorem tX0_setLineMask_41 : tbX0_setLineMask 41 = (.ireturn, 42, 0, 0, 0, 0, []) := rfl
theorem tX0_setLineMask_42 : tbX0_setLineMask 42 = (.aload_n 0, 43, 0, 0, 0, 0, []) := rfl
theorem tX0_setLineMask_43 : tbX0_setLineMask 43 = (.getfield 20, 46, 0, 1, 0, 0, [(0, 0)]) := rfl
theorem tX0_setLineMask_46 : tbX0_setLineMask 46 = (.iload_n 1, 47, 0, 0, 0, 0, []) := rfl
theorem tX0_setLineMask_47 : tbX0_setLineMask 47 = (.aaload, 48, 0, 0, 0, 0, []) := rfl
theorem tX0_setLineMask_48 : tbX0_setLineMask 48 = (.iload_n 2, 49, 0, 0, 0, 0, []) := rfl
theorem tX0_setLineMask_49 : tbX0_setLineMask 49 = (.iconst 1, 50, 0, 0, 0, 1, []) := rfl
theorem tX0_setLineMask_50 : tbX0_setLineMask 50 = (.if_icmp .ne 7, 53, 57, 0, 0, 0, []) := rfl
theorem tX0_setLineMask_53 : tbX0_setLineMask 53 = (.iconst 1, 54, 0, 0, 0, 1, []) := rfl
theorem tX0_setLineMask_54 : tbX0_setLineMask 54 = (.goto 4, 57, 58, 0, 0, 0, []) := rfl
theorem tX0_setLineMask_57 : tbX0_setLineMask 57 = (.iconst 0, 58, 0, 0, 0, 0, []) := rfl
theorem tX0_setLineMask_58 : tbX0_setLineMask 58 = (.putfield 110, 61, 3, 4, 0, 0, [(0, 0)]) := rfl
theorem tX0_setLineMask_61 : tbX0_setLineMask 61 = (.aload_n 0, 62, 0, 0, 0, 0, []) := rfl
theorem tX0_setLineMask_62 : tbX0_setLineMask 62 = (.invokevirtual 113, 65, 26, 0, 0, 0, []) := rfl
theorem tX0_setLineMask_65 : tbX0_setLineMask 65 = (.invokestatic 117, 68, 156, 1, 0, 0, []) := rfl
theorem tX0_setLineMask_68 : tbX0_setLineMask 68 = (.ireturn, 69, 0, 0, 0, 0, []) := rfl
def ltX0_setNodeMask : List (Nat × pm_E) := [(0, .aload_n 0, 1, 0, 0, 0, 0, []), (1, .iload_n 1, 2, 0, 0, 0, 0, []), (2, .invokevirtual 77, 5, 2, 1, 0, 0, []), (5, .ifCond .eq 10, 8, 15, 0, 0, 0, []), (8, .iload_n 2, 9, 0, 0, 0, 0, []), (9, .invokestatic 81, 12, 91, 1, 0, 0, []), (12, .ifCond .ne 5, 15, 17, 0, 0, 0, []), (15, .iconst (-1), 16, 0, 0, 0, -1, []), (16, .ireturn, 17, 0, 0, 0, 0, []), (17, .aload_n 0, 18, 0, 0, 0, 0, []), (18, .getfield 62, 21, 0, 4, 0, 0, []), (21, .iload_n 1, 22, 0, 0, 0, 0, []), (22, .ishr, 23, 0, 0, 0, 0, []), (23, .iconst 1, 24, 0, 0, 0, 1, []), (24, .iand, 25, 0, 0, 0, 0, []), (25, .iload_n 2, 26, 0, 0, 0, 0, []), (26, .if_icmp .ne 6, 29, 32, 0, 0, 0, []), (29, .bipush (-2), 31, 0, 0, 0, -2, []), (31, .ireturn, 32, 0, 0, 0, 0, []), (32, .aload_n 0, 33, 0, 0, 0, 0, []), (33, .dup, 34, 0, 0, 0, 0, []), (34, .getfield 62, 37, 0, 4, 0, 0, []), (37, .iconst 1, 38, 0, 0, 0, 1, []), (38, .iload_n 1, 39, 0, 0, 0, 0, []), (39, .ishl, 40, 0, 0, 0, 0, []), (40, .ixor, 41, 0, 0, 0, 0, []), (41, .putfield 62, 44, 0, 4, 0, 0, []), (44, .aload_n 0, 45, 0, 0, 0, 0, []), (45, .iload_n 1, 46, 0, 0, 0, 0, []), (46, .invokevirtual 123, 49, 28, 1, 0, 0, []), (49, .invokestatic 117, 52, 156, 1, 0, 0, []), (52, .ireturn, 53, 0, 0, 0, 0, [])]
def tbX0_setNodeMask : Nat → pm_E := pm_lk ltX0_setNodeMask
theorem okX0_setNodeMask : ∀ pc, (tbX0_setNodeMask pc).1 = .nop ∨ pm_ok mX0_setNodeMask pw_Ms pc (tbX0_setNodeMask pc) := pm_lk_ok (by decide +kernel)
theorem nr_X0_setNodeMask : mX0_setNodeMask.2.2.2 = (some .int) := rfl
theorem tX0_setNodeMask_0 : tbX0_setNodeMask 0 = (.aload_n 0, 1, 0, 0, 0, 0, []) := rfl
theorem tX0_setNodeMask_1 : tbX0_setNodeMask 1 = (.iload_n 1, 2, 0, 0, 0, 0, []) := rfl
theorem tX0_setNodeMask_2 : tbX0_setNodeMask 2 = (.invokevirtual 77, 5, 2, 1, 0, 0, []) := rfl
theorem tX0_setNodeMask_5 : tbX0_setNodeMask 5 = (.ifCond .eq 10, 8, 15, 0, 0, 0, []) := rfl
theorem tX0_setNodeMask_8 : tbX0_setNodeMask 8 = (.iload_n 2, 9, 0, 0, 0, 0, []) := rfl
theorem tX0_setNodeMask_9 : tbX0_setNodeMask 9 = (.invokestatic 81, 12, 91, 1, 0, 0, []) := rfl
theorem tX0_setNodeMask_12 : tbX0_setNodeMask 12 = (.ifCond .ne 5, 15, 17, 0, 0, 0, []) := rfl
theorem tX0_setNodeMask_15 : tbX0_setNodeMask 15 = (.iconst (-1), 16, 0, 0, 0, -1, []) := rfl
theorem tX0_setNodeMask_16 : tbX0_setNodeMask 16 = (.ireturn, 17, 0, 0, 0, 0, []) := rfl
theorem tX0_setNodeMask_17 : tbX0_setNodeMask 17 = (.aload_n 0, 18, 0, 0, 0, 0, []) := rfl
theorem tX0_setNodeMask_18 : tbX0_setNodeMask 18 = (.getfield 62, 21, 0, 4, 0, 0, []) := rfl
theorem tX0_setNodeMask_21 : tbX0_setNodeMask 21 = (.iload_n 1, 22, 0, 0, 0, 0, []) := rfl
theorem tX0_setNodeMask_22 : tbX0_setNodeMask 22 = (.ishr, 23, 0, 0, 0, 0, []) := rfl
theorem tX0_setNodeMask_23 : tbX0_setNodeMask 23 = (.iconst 1, 24, 0, 0, 0, 1, []) := rfl
theorem tX0_setNodeMask_24 : tbX0_setNodeMask 24 = (.iand, 25, 0, 0, 0, 0, []) := rfl
theorem tX0_setNodeMask_25 : tbX0_setNodeMask 25 = (.iload_n 2, 26, 0, 0, 0, 0, []) := rfl
theorem tX0_setNodeMask_26 : tbX0_setNodeMask 26 = (.if_icmp .ne 6, 29, 32, 0, 0, 0, []) := rfl
theorem tX0_setNodeMask_29 : tbX0_setNodeMask 29 = (.bipush (-2), 31, 0, 0, 0, -2, []) := rfl
theorem tX0_setNodeMask_31 : tbX0_setNodeMask 31 = (.ireturn, 32, 0, 0, 0, 0, []) := rfl
theorem tX0_setNodeMask_32 : tbX0_setNodeMask 32 = (.aload_n 0, 33, 0, 0, 0, 0, []) := rfl
theorem tX0_setNodeMask_33 : tbX0_setNodeMask 33 = (.dup, 34, 0, 0, 0, 0, []) := rfl
theorem tX0_setNodeMask_34 : tbX0_setNodeMask 34 = (.getfield 62, 37, 0, 4, 0, 0, []) := rfl
theorem tX0_setNodeMask_37 : tbX0_setNodeMask 37 = (.iconst 1, 38, 0, 0, 0, 1, []) := rfl
theorem tX0_setNodeMask_38 : tbX0_setNodeMask 38 = (.iload_n 1, 39, 0, 0, 0, 0, []) := rfl
theorem tX0_setNodeMask_39 : tbX0_setNodeMask 39 = (.ishl, 40, 0, 0, 0, 0, []) := rfl
theorem tX0_setNodeMask_40 : tbX0_setNodeMask 40 = (.ixor, 41, 0, 0, 0, 0, []) := rfl
theorem tX0_setNodeMask_41 : tbX0_setNodeMask 41 = (.putfield 62, 44, 0, 4, 0, 0, []) := rfl
theorem tX0_setNodeMask_44 : tbX0_setNodeMask 44 = (.aload_n 0, 45, 0, 0, 0, 0, []) := rfl
theorem tX0_setNodeMask_45 : tbX0_setNodeMask 45 = (.iload_n 1, 46, 0, 0, 0, 0, []) := rfl
theorem tX0_setNodeMask_46 : tbX0_setNodeMask 46 = (.invokevirtual 123, 49, 28, 1, 0, 0, []) := rfl
theorem tX0_setNodeMask_49 : tbX0_setNodeMask 49 = (.invokestatic 117, 52, 156, 1, 0, 0, []) := rfl
theorem tX0_setNodeMask_52 : tbX0_setNodeMask 52 = (.ireturn, 53, 0, 0, 0, 0, []) := rfl
def ltX0_setThreshold : List (Nat × pm_E) := [(0, .iload_n 1, 1, 0, 0, 0, 0, []), (1, .ifCond .lt 9, 4, 10, 0, 0, 0, []), (4, .iload_n 1, 5, 0, 0, 0, 0, []), (5, .bipush 8, 7, 0, 0, 0, 8, []), (7, .if_icmp .le 5, 10, 12, 0, 0, 0, []), (10, .iconst (-1), 11, 0, 0, 0, -1, []), (11, .ireturn, 12, 0, 0, 0, 0, []), (12, .aload_n 0, 13, 0, 0, 0, 0, []), (13, .getfield 68, 16, 0, 6, 0, 0, []), (16, .istore_n 2, 17, 0, 0, 0, 0, []), (17, .aload_n 0, 18, 0, 0, 0, 0, []), (18, .iload_n 1, 19, 0, 0, 0, 0, []), (19, .putfield 68, 22, 0, 6, 0, 0, []), (22, .iload_n 2, 23, 0, 0, 0, 0, []), (23, .ireturn, 24, 0, 0, 0, 0, [])]
def tbX0_setThreshold : Nat → pm_E := pm_lk ltX0_setThreshold
theorem okX0_setThreshold : ∀ pc, (tbX0_setThreshold pc).1 = .nop ∨ pm_ok mX0_setThreshold pw_Ms pc (tbX0_setThreshold pc) := pm_lk_ok (by decide +kernel)
theorem nr_X0_setThreshold : mX0_setThreshold.2.2.2 = (some .int) := rfl
theorem tX0_setThreshold_0 : tbX0_setThreshold 0 = (.iload_n 1, 1, 0, 0, 0, 0, []) := rfl
theorem tX0_setThreshold_1 : tbX0_setThreshold 1 = (.ifCond .lt 9, 4, 10, 0, 0, 0, []) := rfl
theorem tX0_setThreshold_4 : tbX0_setThreshold 4 = (.iload_n 1, 5, 0, 0, 0, 0, []) := rfl
theorem tX0_setThreshold_5 : tbX0_setThreshold 5 = (.bipush 8, 7, 0, 0, 0, 8, []) := rfl
theorem tX0_setThreshold_7 : tbX0_setThreshold 7 = (.if_icmp .le 5, 10, 12, 0, 0, 0, []) := rfl
theorem tX0_setThreshold_10 : tbX0_setThreshold 10 = (.iconst (-1), 11, 0, 0, 0, -1, []) := rfl
theorem tX0_setThreshold_11 : tbX0_setThreshold 11 = (.ireturn, 12, 0, 0, 0, 0, []) := rfl
theorem tX0_setThreshold_12 : tbX0_setThreshold 12 = (.aload_n 0, 13, 0, 0, 0, 0, []) := rfl
theorem tX0_setThreshold_13 : tbX0_setThreshold 13 = (.getfield 68, 16, 0, 6, 0, 0, []) := rfl
theorem tX0_setThreshold_16 : tbX0_setThreshold 16 = (.istore_n 2, 17, 0, 0, 0, 0, []) := rfl
theorem tX0_setThreshold_17 : tbX0_setThreshold 17 = (.aload_n 0, 18, 0, 0, 0, 0, []) := rfl
theorem tX0_setThreshold_18 : tbX0_setThreshold 18 = (.iload_n 1, 19, 0, 0, 0, 0, []) := rfl
theorem tX0_setThreshold_19 : tbX0_setThreshold 19 = (.putfield 68, 22, 0, 6, 0, 0, []) := rfl
theorem tX0_setThreshold_22 : tbX0_setThreshold 22 = (.iload_n 2, 23, 0, 0, 0, 0, []) := rfl
theorem tX0_setThreshold_23 : tbX0_setThreshold 23 = (.ireturn, 24, 0, 0, 0, 0, []) := rfl
def ltX0_setLate : List (Nat × pm_E) := [(0, .iload_n 1, 1, 0, 0, 0, 0, []), (1, .ifCond .lt 9, 4, 10, 0, 0, 0, []), (4, .iload_n 1, 5, 0, 0, 0, 0, []), (5, .bipush 50, 7, 0, 0, 0, 50, []), (7, .if_icmp .le 5, 10, 12, 0, 0, 0, []), (10, .iconst (-1), 11, 0, 0, 0, -1, []), (11, .ireturn, 12, 0, 0, 0, 0, []), (12, .aload_n 0, 13, 0, 0, 0, 0, []), (13, .getfield 49, 16, 0, 7, 0, 0, []), (16, .istore_n 2, 17, 0, 0, 0, 0, []), (17, .aload_n 0, 18, 0, 0, 0, 0, []), (18, .iload_n 1, 19, 0, 0, 0, 0, []), (19, .putfield 49, 22, 0, 7, 0, 0, []), (22, .iload_n 2, 23, 0, 0, 0, 0, []), (23, .ireturn, 24, 0, 0, 0, 0, [])]
def tbX0_setLate : Nat → pm_E := pm_lk ltX0_setLate
theorem okX0_setLate : ∀ pc, (tbX0_setLate pc).1 = .nop ∨ pm_ok mX0_setLate pw_Ms pc (tbX0_setLate pc) := pm_lk_ok (by decide +kernel)
theorem nr_X0_setLate : mX0_setLate.2.2.2 = (some .int) := rfl
theorem tX0_setLate_0 : tbX0_setLate 0 = (.iload_n 1, 1, 0, 0, 0, 0, []) := rfl
theorem tX0_setLate_1 : tbX0_setLate 1 = (.ifCond .lt 9, 4, 10, 0, 0, 0, []) := rfl
theorem tX0_setLate_4 : tbX0_setLate 4 = (.iload_n 1, 5, 0, 0, 0, 0, []) := rfl
theorem tX0_setLate_5 : tbX0_setLate 5 = (.bipush 50, 7, 0, 0, 0, 50, []) := rfl
theorem tX0_setLate_7 : tbX0_setLate 7 = (.if_icmp .le 5, 10, 12, 0, 0, 0, []) := rfl
theorem tX0_setLate_10 : tbX0_setLate 10 = (.iconst (-1), 11, 0, 0, 0, -1, []) := rfl
theorem tX0_setLate_11 : tbX0_setLate 11 = (.ireturn, 12, 0, 0, 0, 0, []) := rfl
theorem tX0_setLate_12 : tbX0_setLate 12 = (.aload_n 0, 13, 0, 0, 0, 0, []) := rfl
theorem tX0_setLate_13 : tbX0_setLate 13 = (.getfield 49, 16, 0, 7, 0, 0, []) := rfl
theorem tX0_setLate_16 : tbX0_setLate 16 = (.istore_n 2, 17, 0, 0, 0, 0, []) := rfl
theorem tX0_setLate_17 : tbX0_setLate 17 = (.aload_n 0, 18, 0, 0, 0, 0, []) := rfl
theorem tX0_setLate_18 : tbX0_setLate 18 = (.iload_n 1, 19, 0, 0, 0, 0, []) := rfl
theorem tX0_setLate_19 : tbX0_setLate 19 = (.putfield 49, 22, 0, 7, 0, 0, []) := rfl
theorem tX0_setLate_22 : tbX0_setLate 22 = (.iload_n 2, 23, 0, 0, 0, 0, []) := rfl
theorem tX0_setLate_23 : tbX0_setLate 23 = (.ireturn, 24, 0, 0, 0, 0, []) := rfl
def ltX0_giveEdge : List (Nat × pm_E) := [(0, .aload_n 0, 1, 0, 0, 0, 0, []), (1, .iload_n 1, 2, 0, 0, 0, 0, []), (2, .invokevirtual 107, 5, 3, 1, 0, 0, []), (5, .ifCond .ne 5, 8, 10, 0, 0, 0, []), (8, .iconst (-1), 9, 0, 0, 0, -1, []), (9, .ireturn, 10, 0, 0, 0, 0, []), (10, .aload_n 0, 11, 0, 0, 0, 0, []), (11, .getfield 20, 14, 0, 1, 0, 0, [(0, 0)]), (14, .iload_n 1, 15, 0, 0, 0, 0, []), (15, .aaload, 16, 0, 0, 0, 0, []), (16, .astore_n 2, 17, 0, 0, 0, 0, []), (17, .aload_n 2, 18, 0, 0, 0, 0, []), (18, .getfield 104, 21, 3, 2, 0, 0, []), (21, .ifCond .eq 6, 24, 27, 0, 0, 0, []), (24, .bipush (-2), 26, 0, 0, 0, -2, []), (26, .ireturn, 27, 0, 0, 0, 0, []), (27, .aload_n 2, 28, 0, 0, 0, 0, []), (28, .dup, 29, 0, 0, 0, 0, []), (29, .getfield 126, 32, 3, 6, 0, 0, []), (32, .iconst 1, 33, 0, 0, 0, 1, []), (33, .iadd, 34, 0, 0, 0, 0, []), (34, .putfield 126, 37, 3, 6, 0, 0, []), (37, .aload_n 2, 38, 0, 0, 0, 0, []), (38, .getfield 129, 41, 3, 3, 0, 0, []), (41, .ifCond .eq 15, 44, 56, 0, 0, 0, []), (44, .aload_n 2, 45, 0, 0, 0, 0, []), (45, .dup, 46, 0, 0, 0, 0, []), (46, .getfield 132, 49, 3, 7, 0, 0, []), (49, .iconst 1, 50, 0, 0, 0, 1, []), (50, .iadd, 51, 0, 0, 0, 0, []), (51, .putfield 132, 54, 3, 7, 0, 0, []), (54, .iconst 0, 55, 0, 0, 0, 0, []), (55, .ireturn, 56, 0, 0, 0, 0, []), (56, .aload_n 2, 57, 0, 0, 0, 0, []), (57, .iconst 1, 58, 0, 0, 0, 1, []), (58, .putfield 129, 61, 3, 3, 0, 0, [(0, 0)]), (61, .aload_n 2, 62, 0, 0, 0, 0, []), (62, .aload_n 0, 63, 0, 0, 0, 0, []), (63, .getfield 65, 66, 0, 5, 0, 0, []), (66, .putfield 135, 69, 3, 10, 0, 0, []), (69, .iconst 1, 70, 0, 0, 0, 1, []), (70, .ireturn, 71, 0, 0, 0, 0, [])]
def tbX0_giveEdge : Nat → pm_E := pm_lk ltX0_giveEdge
theorem okX0_giveEdge : ∀ pc, (tbX0_giveEdge pc).1 = .nop ∨ pm_ok mX0_giveEdge pw_Ms pc (tbX0_giveEdge pc) := pm_lk_ok (by decide +kernel)
theorem nr_X0_giveEdge : mX0_giveEdge.2.2.2 = (some .int) := rfl
theorem tX0_giveEdge_0 : tbX0_giveEdge 0 = (.aload_n 0, 1, 0, 0, 0, 0, []) := rfl
theorem tX0_giveEdge_1 : tbX0_giveEdge 1 = (.iload_n 1, 2, 0, 0, 0, 0, []) := rfl
theorem tX0_giveEdge_2 : tbX0_giveEdge 2 = (.invokevirtual 107, 5, 3, 1, 0, 0, []) := rfl
theorem tX0_giveEdge_5 : tbX0_giveEdge 5 = (.ifCond .ne 5, 8, 10, 0, 0, 0, []) := rfl
theorem tX0_giveEdge_8 : tbX0_giveEdge 8 = (.iconst (-1), 9, 0, 0, 0, -1, []) := rfl
theorem tX0_giveEdge_9 : tbX0_giveEdge 9 = (.ireturn, 10, 0, 0, 0, 0, []) := rfl
theorem tX0_giveEdge_10 : tbX0_giveEdge 10 = (.aload_n 0, 11, 0, 0, 0, 0, []) := rfl
theorem tX0_giveEdge_11 : tbX0_giveEdge 11 = (.getfield 20, 14, 0, 1, 0, 0, [(0, 0)]) := rfl
theorem tX0_giveEdge_14 : tbX0_giveEdge 14 = (.iload_n 1, 15, 0, 0, 0, 0, []) := rfl
theorem tX0_giveEdge_15 : tbX0_giveEdge 15 = (.aaload, 16, 0, 0, 0, 0, []) := rfl
theorem tX0_giveEdge_16 : tbX0_giveEdge 16 = (.astore_n 2, 17, 0, 0, 0, 0, []) := rfl
theorem tX0_giveEdge_17 : tbX0_giveEdge 17 = (.aload_n 2, 18, 0, 0, 0, 0, []) := rfl
theorem tX0_giveEdge_18 : tbX0_giveEdge 18 = (.getfield 104, 21, 3, 2, 0, 0, []) := rfl
theorem tX0_giveEdge_21 : tbX0_giveEdge 21 = (.ifCond .eq 6, 24, 27, 0, 0, 0, []) := rfl
theorem tX0_giveEdge_24 : tbX0_giveEdge 24 = (.bipush (-2), 26, 0, 0, 0, -2, []) := rfl
theorem tX0_giveEdge_26 : tbX0_giveEdge 26 = (.ireturn, 27, 0, 0, 0, 0, []) := rfl
theorem tX0_giveEdge_27 : tbX0_giveEdge 27 = (.aload_n 2, 28, 0, 0, 0, 0, []) := rfl
theorem tX0_giveEdge_28 : tbX0_giveEdge 28 = (.dup, 29, 0, 0, 0, 0, []) := rfl
theorem tX0_giveEdge_29 : tbX0_giveEdge 29 = (.getfield 126, 32, 3, 6, 0, 0, []) := rfl
theorem tX0_giveEdge_32 : tbX0_giveEdge 32 = (.iconst 1, 33, 0, 0, 0, 1, []) := rfl
theorem tX0_giveEdge_33 : tbX0_giveEdge 33 = (.iadd, 34, 0, 0, 0, 0, []) := rfl
theorem tX0_giveEdge_34 : tbX0_giveEdge 34 = (.putfield 126, 37, 3, 6, 0, 0, []) := rfl
theorem tX0_giveEdge_37 : tbX0_giveEdge 37 = (.aload_n 2, 38, 0, 0, 0, 0, []) := rfl
theorem tX0_giveEdge_38 : tbX0_giveEdge 38 = (.getfield 129, 41, 3, 3, 0, 0, []) := rfl
theorem tX0_giveEdge_41 : tbX0_giveEdge 41 = (.ifCond .eq 15, 44, 56, 0, 0, 0, []) := rfl
theorem tX0_giveEdge_44 : tbX0_giveEdge 44 = (.aload_n 2, 45, 0, 0, 0, 0, []) := rfl
theorem tX0_giveEdge_45 : tbX0_giveEdge 45 = (.dup, 46, 0, 0, 0, 0, []) := rfl
theorem tX0_giveEdge_46 : tbX0_giveEdge 46 = (.getfield 132, 49, 3, 7, 0, 0, []) := rfl
theorem tX0_giveEdge_49 : tbX0_giveEdge 49 = (.iconst 1, 50, 0, 0, 0, 1, []) := rfl
theorem tX0_giveEdge_50 : tbX0_giveEdge 50 = (.iadd, 51, 0, 0, 0, 0, []) := rfl
theorem tX0_giveEdge_51 : tbX0_giveEdge 51 = (.putfield 132, 54, 3, 7, 0, 0, []) := rfl
theorem tX0_giveEdge_54 : tbX0_giveEdge 54 = (.iconst 0, 55, 0, 0, 0, 0, []) := rfl
theorem tX0_giveEdge_55 : tbX0_giveEdge 55 = (.ireturn, 56, 0, 0, 0, 0, []) := rfl
theorem tX0_giveEdge_56 : tbX0_giveEdge 56 = (.aload_n 2, 57, 0, 0, 0, 0, []) := rfl
theorem tX0_giveEdge_57 : tbX0_giveEdge 57 = (.iconst 1, 58, 0, 0, 0, 1, []) := rfl
theorem tX0_giveEdge_58 : tbX0_giveEdge 58 = (.putfield 129, 61, 3, 3, 0, 0, [(0, 0)]) := rfl
theorem tX0_giveEdge_61 : tbX0_giveEdge 61 = (.aload_n 2, 62, 0, 0, 0, 0, []) := rfl
theorem tX0_giveEdge_62 : tbX0_giveEdge 62 = (.aload_n 0, 63, 0, 0, 0, 0, []) := rfl
theorem tX0_giveEdge_63 : tbX0_giveEdge 63 = (.getfield 65, 66, 0, 5, 0, 0, []) := rfl
theorem tX0_giveEdge_66 : tbX0_giveEdge 66 = (.putfield 135, 69, 3, 10, 0, 0, []) := rfl
theorem tX0_giveEdge_69 : tbX0_giveEdge 69 = (.iconst 1, 70, 0, 0, 0, 1, []) := rfl
theorem tX0_giveEdge_70 : tbX0_giveEdge 70 = (.ireturn, 71, 0, 0, 0, 0, []) := rfl
def ltX0_setLevel : List (Nat × pm_E) := [(0, .aload_n 0, 1, 0, 0, 0, 0, []), (1, .iload_n 1, 2, 0, 0, 0, 0, []), (2, .invokevirtual 107, 5, 3, 1, 0, 0, []), (5, .ifCond .eq 10, 8, 15, 0, 0, 0, []), (8, .iload_n 2, 9, 0, 0, 0, 0, []), (9, .invokestatic 81, 12, 91, 1, 0, 0, []), (12, .ifCond .ne 5, 15, 17, 0, 0, 0, []), (15, .iconst (-1), 16, 0, 0, 0, -1, []), (16, .ireturn, 17, 0, 0, 0, 0, []), (17, .aload_n 0, 18, 0, 0, 0, 0, []), (18, .getfield 20, 21, 0, 1, 0, 0, [(0, 0)]), (21, .iload_n 1, 22, 0, 0, 0, 0, []), (22, .aaload, 23, 0, 0, 0, 0, []), (23, .astore_n 3, 24, 0, 0, 0, 0, []), (24, .aload_n 3, 25, 0, 0, 0, 0, []), (25, .getfield 104, 28, 3, 2, 0, 0, []), (28, .ifCond .eq 20, 31, 48, 0, 0, 0, []), (31, .aload_n 3, 32, 0, 0, 0, 0, []), (32, .getfield 129, 35, 3, 3, 0, 0, []), (35, .iload_n 2, 36, 0, 0, 0, 0, []), (36, .iconst 1, 37, 0, 0, 0, 1, []), (37, .if_icmp .ne 7, 40, 44, 0, 0, 0, []), (40, .iconst 1, 41, 0, 0, 0, 1, []), (41, .goto 4, 44, 45, 0, 0, 0, []), (44, .iconst 0, 45, 0, 0, 0, 0, []), (45, .if_icmp .ne 6, 48, 51, 0, 0, 0, []), (48, .bipush (-2), 50, 0, 0, 0, -2, []), (50, .ireturn, 51, 0, 0, 0, 0, []), (51, .aload_n 3, 52, 0, 0, 0, 0, []), (52, .iload_n 2, 53, 0, 0, 0, 0, []), (53, .iconst 1, 54, 0, 0, 0, 1, []), (54, .if_icmp .ne 7, 57, 61, 0, 0, 0, []), (57, .iconst 1, 58, 0, 0, 0, 1, []), (58, .goto 4, 61, 62, 0, 0, 0, []), (61, .iconst 0, 62, 0, 0, 0, 0, []), (62, .putfield 129, 65, 3, 3, 0, 0, [(0, 0)]), (65, .aload_n 0, 66, 0, 0, 0, 0, []), (66, .invokevirtual 138, 69, 23, 0, 0, 0, []), (69, .invokestatic 117, 72, 156, 1, 0, 0, []), (72, .ireturn, 73, 0, 0, 0, 0, [])]
def tbX0_setLevel : Nat → pm_E := pm_lk ltX0_setLevel
theorem okX0_setLevel : ∀ pc, (tbX0_setLevel pc).1 = .nop ∨ pm_ok mX0_setLevel pw_Ms pc (tbX0_setLevel pc) := pm_lk_ok (by decide +kernel)
theorem nr_X0_setLevel : mX0_setLevel.2.2.2 = (some .int) := rfl
theorem tX0_setLevel_0 : tbX0_setLevel 0 = (.aload_n 0, 1, 0, 0, 0, 0, []) := rfl
theorem tX0_setLevel_1 : tbX0_setLevel 1 = (.iload_n 1, 2, 0, 0, 0, 0, []) := rfl
theorem tX0_setLevel_2 : tbX0_setLevel 2 = (.invokevirtual 107, 5, 3, 1, 0, 0, []) := rfl
theorem tX0_setLevel_5 : tbX0_setLevel 5 = (.ifCond .eq 10, 8, 15, 0, 0, 0, []) := rfl
theorem tX0_setLevel_8 : tbX0_setLevel 8 = (.iload_n 2, 9, 0, 0, 0, 0, []) := rfl
theorem tX0_setLevel_9 : tbX0_setLevel 9 = (.invokestatic 81, 12, 91, 1, 0, 0, []) := rfl
theorem tX0_setLevel_12 : tbX0_setLevel 12 = (.ifCond .ne 5, 15, 17, 0, 0, 0, []) := rfl
theorem tX0_setLevel_15 : tbX0_setLevel 15 = (.iconst (-1), 16, 0, 0, 0, -1, []) := rfl
theorem tX0_setLevel_16 : tbX0_setLevel 16 = (.ireturn, 17, 0, 0, 0, 0, []) := rfl
theorem tX0_setLevel_17 : tbX0_setLevel 17 = (.aload_n 0, 18, 0, 0, 0, 0, []) := rfl
theorem tX0_setLevel_18 : tbX0_setLevel 18 = (.getfield 20, 21, 0, 1, 0, 0, [(0, 0)]) := rfl
theorem tX0_setLevel_21 : tbX0_setLevel 21 = (.iload_n 1, 22, 0, 0, 0, 0, []) := rfl
theorem tX0_setLevel_22 : tbX0_setLevel 22 = (.aaload, 23, 0, 0, 0, 0, []) := rfl
theorem tX0_setLevel_23 : tbX0_setLevel 23 = (.astore_n 3, 24, 0, 0, 0, 0, []) := rfl
theorem tX0_setLevel_24 : tbX0_setLevel 24 = (.aload_n 3, 25, 0, 0, 0, 0, []) := rfl
theorem tX0_setLevel_25 : tbX0_setLevel 25 = (.getfield 104, 28, 3, 2, 0, 0, []) := rfl
theorem tX0_setLevel_28 : tbX0_setLevel 28 = (.ifCond .eq 20, 31, 48, 0, 0, 0, []) := rfl
theorem tX0_setLevel_31 : tbX0_setLevel 31 = (.aload_n 3, 32, 0, 0, 0, 0, []) := rfl
theorem tX0_setLevel_32 : tbX0_setLevel 32 = (.getfield 129, 35, 3, 3, 0, 0, []) := rfl
theorem tX0_setLevel_35 : tbX0_setLevel 35 = (.iload_n 2, 36, 0, 0, 0, 0, []) := rfl
theorem tX0_setLevel_36 : tbX0_setLevel 36 = (.iconst 1, 37, 0, 0, 0, 1, []) := rfl
theorem tX0_setLevel_37 : tbX0_setLevel 37 = (.if_icmp .ne 7, 40, 44, 0, 0, 0, []) := rfl
theorem tX0_setLevel_40 : tbX0_setLevel 40 = (.iconst 1, 41, 0, 0, 0, 1, []) := rfl
theorem tX0_setLevel_41 : tbX0_setLevel 41 = (.goto 4, 44, 45, 0, 0, 0, []) := rfl
theorem tX0_setLevel_44 : tbX0_setLevel 44 = (.iconst 0, 45, 0, 0, 0, 0, []) := rfl
theorem tX0_setLevel_45 : tbX0_setLevel 45 = (.if_icmp .ne 6, 48, 51, 0, 0, 0, []) := rfl
theorem tX0_setLevel_48 : tbX0_setLevel 48 = (.bipush (-2), 50, 0, 0, 0, -2, []) := rfl
theorem tX0_setLevel_50 : tbX0_setLevel 50 = (.ireturn, 51, 0, 0, 0, 0, []) := rfl
theorem tX0_setLevel_51 : tbX0_setLevel 51 = (.aload_n 3, 52, 0, 0, 0, 0, []) := rfl
theorem tX0_setLevel_52 : tbX0_setLevel 52 = (.iload_n 2, 53, 0, 0, 0, 0, []) := rfl
theorem tX0_setLevel_53 : tbX0_setLevel 53 = (.iconst 1, 54, 0, 0, 0, 1, []) := rfl
theorem tX0_setLevel_54 : tbX0_setLevel 54 = (.if_icmp .ne 7, 57, 61, 0, 0, 0, []) := rfl
theorem tX0_setLevel_57 : tbX0_setLevel 57 = (.iconst 1, 58, 0, 0, 0, 1, []) := rfl
theorem tX0_setLevel_58 : tbX0_setLevel 58 = (.goto 4, 61, 62, 0, 0, 0, []) := rfl
theorem tX0_setLevel_61 : tbX0_setLevel 61 = (.iconst 0, 62, 0, 0, 0, 0, []) := rfl
theorem tX0_setLevel_62 : tbX0_setLevel 62 = (.putfield 129, 65, 3, 3, 0, 0, [(0, 0)]) := rfl
theorem tX0_setLevel_65 : tbX0_setLevel 65 = (.aload_n 0, 66, 0, 0, 0, 0, []) := rfl
theorem tX0_setLevel_66 : tbX0_setLevel 66 = (.invokevirtual 138, 69, 23, 0, 0, 0, []) := rfl
theorem tX0_setLevel_69 : tbX0_setLevel 69 = (.invokestatic 117, 72, 156, 1, 0, 0, []) := rfl
theorem tX0_setLevel_72 : tbX0_setLevel 72 = (.ireturn, 73, 0, 0, 0, 0, []) := rfl
def ltX0_takeNext : List (Nat × pm_E) := [(0, .aload_n 0, 1, 0, 0, 0, 0, []), (1, .getfield 28, 4, 0, 9, 0, 0, [(0, 0)]), (4, .getfield 91, 7, 5, 1, 0, 0, []), (7, .iconst 4, 8, 0, 0, 0, 4, []), (8, .if_icmp .lt 6, 11, 14, 0, 0, 0, []), (11, .bipush (-3), 13, 0, 0, 0, -3, []), (13, .ireturn, 14, 0, 0, 0, 0, []), (14, .aload_n 0, 15, 0, 0, 0, 0, []), (15, .invokevirtual 141, 18, 18, 0, 0, 0, []), (18, .istore_n 1, 19, 0, 0, 0, 0, []), (19, .aload_n 0, 20, 0, 0, 0, 0, []), (20, .iload_n 1, 21, 0, 0, 0, 0, []), (21, .invokevirtual 107, 24, 3, 1, 0, 0, []), (24, .ifCond .ne 6, 27, 30, 0, 0, 0, []), (27, .bipush (-4), 29, 0, 0, 0, -4, []), (29, .ireturn, 30, 0, 0, 0, 0, []), (30, .aload_n 0, 31, 0, 0, 0, 0, []), (31, .getfield 20, 34, 0, 1, 0, 0, [(0, 0)]), (34, .iload_n 1, 35, 0, 0, 0, 0, []), (35, .aaload, 36, 0, 0, 0, 0, []), (36, .astore_n 2, 37, 0, 0, 0, 0, []), (37, .aload_n 2, 38, 0, 0, 0, 0, []), (38, .iconst 1, 39, 0, 0, 0, 1, []), (39, .putfield 144, 42, 3, 5, 0, 0, []), (42, .aload_n 2, 43, 0, 0, 0, 0, []), (43, .dup, 44, 0, 0, 0, 0, []), (44, .getfield 147, 47, 3, 8, 0, 0, []), (47, .iconst 1, 48, 0, 0, 0, 1, []), (48, .iadd, 49, 0, 0, 0, 0, []), (49, .putfield 147, 52, 3, 8, 0, 0, []), (52, .aload_n 2, 53, 0, 0, 0, 0, []), (53, .getfield 104, 56, 3, 2, 0, 0, []), (56, .ifCond .ne 28, 59, 84, 0, 0, 0, []), (59, .aload_n 2, 60, 0, 0, 0, 0, []), (60, .iconst 0, 61, 0, 0, 0, 0, []), (61, .putfield 129, 64, 3, 3, 0, 0, [(0, 0)]), (64, .aload_n 2, 65, 0, 0, 0, 0, []), (65, .aload_n 2, 66, 0, 0, 0, 0, []), (66, .getfield 150, 69, 3, 9, 0, 0, []), (69, .aload_n 0, 70, 0, 0, 0, 0, []), (70, .getfield 65, 73, 0, 5, 0, 0, []), (73, .aload_n 2, 74, 0, 0, 0, 0, []), (74, .getfield 135, 77, 3, 10, 0, 0, []), (77, .isub, 78, 0, 0, 0, 0, []), (78, .invokestatic 153, 81, 157, 2, 0, 0, []), (81, .putfield 150, 84, 3, 9, 0, 0, []), (84, .aload_n 0, 85, 0, 0, 0, 0, []), (85, .getfield 28, 88, 0, 9, 0, 0, [(0, 0)]), (88, .aload_n 0, 89, 0, 0, 0, 0, []), (89, .getfield 28, 92, 0, 9, 0, 0, [(0, 0)]), (92, .getfield 91, 95, 5, 1, 0, 0, []), (95, .iload_n 1, 96, 0, 0, 0, 0, []), (96, .invokevirtual 94, 99, 61, 2, 5, 0, []), (99, .aload_n 0, 100, 0, 0, 0, 0, []), (100, .iload_n 1, 101, 0, 0, 0, 0, []), (101, .invokevirtual 159, 104, 17, 1, 0, 0, []), (104, .iload_n 1, 105, 0, 0, 0, 0, []), (105, .ireturn, 106, 0, 0, 0, 0, [])]
def tbX0_takeNext : Nat → pm_E := pm_lk ltX0_takeNext
theorem okX0_takeNext : ∀ pc, (tbX0_takeNext pc).1 = .nop ∨ pm_ok mX0_takeNext pw_Ms pc (tbX0_takeNext pc) := pm_lk_ok (by decide +kernel)
theorem nr_X0_takeNext : mX0_takeNext.2.2.2 = (some .int) := rfl
theorem tX0_takeNext_0 : tbX0_takeNext 0 = (.aload_n 0, 1, 0, 0, 0, 0, []) := rfl
theorem tX0_takeNext_1 : tbX0_takeNext 1 = (.getfield 28, 4, 0, 9, 0, 0, [(0, 0)]) := rfl
theorem tX0_takeNext_4 : tbX0_takeNext 4 = (.getfield 91, 7, 5, 1, 0, 0, []) := rfl
theorem tX0_takeNext_7 : tbX0_takeNext 7 = (.iconst 4, 8, 0, 0, 0, 4, []) := rfl
theorem tX0_takeNext_8 : tbX0_takeNext 8 = (.if_icmp .lt 6, 11, 14, 0, 0, 0, []) := rfl
theorem tX0_takeNext_11 : tbX0_takeNext 11 = (.bipush (-3), 13, 0, 0, 0, -3, []) := rfl
theorem tX0_takeNext_13 : tbX0_takeNext 13 = (.ireturn, 14, 0, 0, 0, 0, []) := rfl
theorem tX0_takeNext_14 : tbX0_takeNext 14 = (.aload_n 0, 15, 0, 0, 0, 0, []) := rfl
theorem tX0_takeNext_15 : tbX0_takeNext 15 = (.invokevirtual 141, 18, 18, 0, 0, 0, []) := rfl
theorem tX0_takeNext_18 : tbX0_takeNext 18 = (.istore_n 1, 19, 0, 0, 0, 0, []) := rfl
theorem tX0_takeNext_19 : tbX0_takeNext 19 = (.aload_n 0, 20, 0, 0, 0, 0, []) := rfl
theorem tX0_takeNext_20 : tbX0_takeNext 20 = (.iload_n 1, 21, 0, 0, 0, 0, []) := rfl
theorem tX0_takeNext_21 : tbX0_takeNext 21 = (.invokevirtual 107, 24, 3, 1, 0, 0, []) := rfl
theorem tX0_takeNext_24 : tbX0_takeNext 24 = (.ifCond .ne 6, 27, 30, 0, 0, 0, []) := rfl
theorem tX0_takeNext_27 : tbX0_takeNext 27 = (.bipush (-4), 29, 0, 0, 0, -4, []) := rfl
theorem tX0_takeNext_29 : tbX0_takeNext 29 = (.ireturn, 30, 0, 0, 0, 0, []) := rfl
theorem tX0_takeNext_30 : tbX0_takeNext 30 = (.aload_n 0, 31, 0, 0, 0, 0, []) := rfl
theorem tX0_takeNext_31 : tbX0_takeNext 31 = (.getfield 20, 34, 0, 1, 0, 0, [(0, 0)]) := rfl
theorem tX0_takeNext_34 : tbX0_takeNext 34 = (.iload_n 1, 35, 0, 0, 0, 0, []) := rfl
theorem tX0_takeNext_35 : tbX0_takeNext 35 = (.aaload, 36, 0, 0, 0, 0, []) := rfl
theorem tX0_takeNext_36 : tbX0_takeNext 36 = (.astore_n 2, 37, 0, 0, 0, 0, []) := rfl
theorem tX0_takeNext_37 : tbX0_takeNext 37 = (.aload_n 2, 38, 0, 0, 0, 0, []) := rfl
theorem tX0_takeNext_38 : tbX0_takeNext 38 = (.iconst 1, 39, 0, 0, 0, 1, []) := rfl
theorem tX0_takeNext_39 : tbX0_takeNext 39 = (.putfield 144, 42, 3, 5, 0, 0, []) := rfl
theorem tX0_takeNext_42 : tbX0_takeNext 42 = (.aload_n 2, 43, 0, 0, 0, 0, []) := rfl
theorem tX0_takeNext_43 : tbX0_takeNext 43 = (.dup, 44, 0, 0, 0, 0, []) := rfl
theorem tX0_takeNext_44 : tbX0_takeNext 44 = (.getfield 147, 47, 3, 8, 0, 0, []) := rfl
theorem tX0_takeNext_47 : tbX0_takeNext 47 = (.iconst 1, 48, 0, 0, 0, 1, []) := rfl
theorem tX0_takeNext_48 : tbX0_takeNext 48 = (.iadd, 49, 0, 0, 0, 0, []) := rfl
theorem tX0_takeNext_49 : tbX0_takeNext 49 = (.putfield 147, 52, 3, 8, 0, 0, []) := rfl
theorem tX0_takeNext_52 : tbX0_takeNext 52 = (.aload_n 2, 53, 0, 0, 0, 0, []) := rfl
theorem tX0_takeNext_53 : tbX0_takeNext 53 = (.getfield 104, 56, 3, 2, 0, 0, []) := rfl
theorem tX0_takeNext_56 : tbX0_takeNext 56 = (.ifCond .ne 28, 59, 84, 0, 0, 0, []) := rfl
theorem tX0_takeNext_59 : tbX0_takeNext 59 = (.aload_n 2, 60, 0, 0, 0, 0, []) := rfl
theorem tX0_takeNext_60 : tbX0_takeNext 60 = (.iconst 0, 61, 0, 0, 0, 0, []) := rfl
theorem tX0_takeNext_61 : tbX0_takeNext 61 = (.putfield 129, 64, 3, 3, 0, 0, [(0, 0)]) := rfl
theorem tX0_takeNext_64 : tbX0_takeNext 64 = (.aload_n 2, 65, 0, 0, 0, 0, []) := rfl
theorem tX0_takeNext_65 : tbX0_takeNext 65 = (.aload_n 2, 66, 0, 0, 0, 0, []) := rfl
theorem tX0_takeNext_66 : tbX0_takeNext 66 = (.getfield 150, 69, 3, 9, 0, 0, []) := rfl
theorem tX0_takeNext_69 : tbX0_takeNext 69 = (.aload_n 0, 70, 0, 0, 0, 0, []) := rfl
theorem tX0_takeNext_70 : tbX0_takeNext 70 = (.getfield 65, 73, 0, 5, 0, 0, []) := rfl
theorem tX0_takeNext_73 : tbX0_takeNext 73 = (.aload_n 2, 74, 0, 0, 0, 0, []) := rfl
theorem tX0_takeNext_74 : tbX0_takeNext 74 = (.getfield 135, 77, 3, 10, 0, 0, []) := rfl
theorem tX0_takeNext_77 : tbX0_takeNext 77 = (.isub, 78, 0, 0, 0, 0, []) := rfl
theorem tX0_takeNext_78 : tbX0_takeNext 78 = (.invokestatic 153, 81, 157, 2, 0, 0, []) := rfl
theorem tX0_takeNext_81 : tbX0_takeNext 81 = (.putfield 150, 84, 3, 9, 0, 0, []) := rfl
theorem tX0_takeNext_84 : tbX0_takeNext 84 = (.aload_n 0, 85, 0, 0, 0, 0, []) := rfl
theorem tX0_takeNext_85 : tbX0_takeNext 85 = (.getfield 28, 88, 0, 9, 0, 0, [(0, 0)]) := rfl
theorem tX0_takeNext_88 : tbX0_takeNext 88 = (.aload_n 0, 89, 0, 0, 0, 0, []) := rfl
theorem tX0_takeNext_89 : tbX0_takeNext 89 = (.getfield 28, 92, 0, 9, 0, 0, [(0, 0)]) := rfl
theorem tX0_takeNext_92 : tbX0_takeNext 92 = (.getfield 91, 95, 5, 1, 0, 0, []) := rfl
theorem tX0_takeNext_95 : tbX0_takeNext 95 = (.iload_n 1, 96, 0, 0, 0, 0, []) := rfl
theorem tX0_takeNext_96 : tbX0_takeNext 96 = (.invokevirtual 94, 99, 61, 2, 5, 0, []) := rfl
theorem tX0_takeNext_99 : tbX0_takeNext 99 = (.aload_n 0, 100, 0, 0, 0, 0, []) := rfl
theorem tX0_takeNext_100 : tbX0_takeNext 100 = (.iload_n 1, 101, 0, 0, 0, 0, []) := rfl
theorem tX0_takeNext_101 : tbX0_takeNext 101 = (.invokevirtual 159, 104, 17, 1, 0, 0, []) := rfl
theorem tX0_takeNext_104 : tbX0_takeNext 104 = (.iload_n 1, 105, 0, 0, 0, 0, []) := rfl
theorem tX0_takeNext_105 : tbX0_takeNext 105 = (.ireturn, 106, 0, 0, 0, 0, []) := rfl
def ltX0_endService : List (Nat × pm_E) := [(0, .aload_n 0, 1, 0, 0, 0, 0, []), (1, .getfield 28, 4, 0, 9, 0, 0, [(0, 0)]), (4, .aload_n 0, 5, 0, 0, 0, 0, []), (5, .getfield 28, 8, 0, 9, 0, 0, [(0, 0)]), (8, .getfield 91, 11, 5, 1, 0, 0, []), (11, .iconst 1, 12, 0, 0, 0, 1, []), (12, .isub, 13, 0, 0, 0, 0, []), (13, .invokevirtual 163, 16, 60, 1, 5, 0, []), (16, .istore_n 1, 17, 0, 0, 0, 0, []), (17, .aload_n 0, 18, 0, 0, 0, 0, []), (18, .iload_n 1, 19, 0, 0, 0, 0, []), (19, .invokevirtual 107, 22, 3, 1, 0, 0, []), (22, .ifCond .ne 6, 25, 28, 0, 0, 0, []), (25, .bipush (-2), 27, 0, 0, 0, -2, []), (27, .ireturn, 28, 0, 0, 0, 0, []), (28, .aload_n 0, 29, 0, 0, 0, 0, []), (29, .getfield 28, 32, 0, 9, 0, 0, [(0, 0)]), (32, .aload_n 0, 33, 0, 0, 0, 0, []), (33, .getfield 28, 36, 0, 9, 0, 0, [(0, 0)]), (36, .getfield 91, 39, 5, 1, 0, 0, []), (39, .iconst 1, 40, 0, 0, 0, 1, []), (40, .isub, 41, 0, 0, 0, 0, []), (41, .invokevirtual 166, 44, 62, 1, 5, 0, []), (44, .aload_n 0, 45, 0, 0, 0, 0, []), (45, .getfield 20, 48, 0, 1, 0, 0, [(0, 0)]), (48, .iload_n 1, 49, 0, 0, 0, 0, []), (49, .aaload, 50, 0, 0, 0, 0, []), (50, .iconst 2, 51, 0, 0, 0, 2, []), (51, .putfield 144, 54, 3, 5, 0, 0, []), (54, .aload_n 0, 55, 0, 0, 0, 0, []), (55, .getfield 20, 58, 0, 1, 0, 0, [(0, 0)]), (58, .iload_n 1, 59, 0, 0, 0, 0, []), (59, .aaload, 60, 0, 0, 0, 0, []), (60, .aload_n 0, 61, 0, 0, 0, 0, []), (61, .getfield 65, 64, 0, 5, 0, 0, []), (64, .aload_n 0, 65, 0, 0, 0, 0, []), (65, .getfield 49, 68, 0, 7, 0, 0, []), (68, .iadd, 69, 0, 0, 0, 0, []), (69, .putfield 169, 72, 3, 11, 0, 0, []), (72, .aload_n 0, 73, 0, 0, 0, 0, []), (73, .iload_n 1, 74, 0, 0, 0, 0, []), (74, .invokevirtual 172, 77, 15, 1, 0, 0, []), (77, .aload_n 0, 78, 0, 0, 0, 0, []), (78, .invokevirtual 175, 81, 16, 0, 0, 0, []), (81, .pop, 82, 0, 0, 0, 0, []), (82, .iload_n 1, 83, 0, 0, 0, 0, []), (83, .ireturn, 84, 0, 0, 0, 0, [])]
def tbX0_endService : Nat → pm_E := pm_lk ltX0_endService
theorem okX0_endService : ∀ pc, (tbX0_endService pc).1 = .nop ∨ pm_ok mX0_endService pw_Ms pc (tbX0_endService pc) := pm_lk_ok (by decide +kernel)
theorem nr_X0_endService : mX0_endService.2.2.2 = (some .int) := rfl
theorem tX0_endService_0 : tbX0_endService 0 = (.aload_n 0, 1, 0, 0, 0, 0, []) := rfl
theorem tX0_endService_1 : tbX0_endService 1 = (.getfield 28, 4, 0, 9, 0, 0, [(0, 0)]) := rfl
theorem tX0_endService_4 : tbX0_endService 4 = (.aload_n 0, 5, 0, 0, 0, 0, []) := rfl
theorem tX0_endService_5 : tbX0_endService 5 = (.getfield 28, 8, 0, 9, 0, 0, [(0, 0)]) := rfl
theorem tX0_endService_8 : tbX0_endService 8 = (.getfield 91, 11, 5, 1, 0, 0, []) := rfl
theorem tX0_endService_11 : tbX0_endService 11 = (.iconst 1, 12, 0, 0, 0, 1, []) := rfl
theorem tX0_endService_12 : tbX0_endService 12 = (.isub, 13, 0, 0, 0, 0, []) := rfl
theorem tX0_endService_13 : tbX0_endService 13 = (.invokevirtual 163, 16, 60, 1, 5, 0, []) := rfl
theorem tX0_endService_16 : tbX0_endService 16 = (.istore_n 1, 17, 0, 0, 0, 0, []) := rfl
theorem tX0_endService_17 : tbX0_endService 17 = (.aload_n 0, 18, 0, 0, 0, 0, []) := rfl
theorem tX0_endService_18 : tbX0_endService 18 = (.iload_n 1, 19, 0, 0, 0, 0, []) := rfl
theorem tX0_endService_19 : tbX0_endService 19 = (.invokevirtual 107, 22, 3, 1, 0, 0, []) := rfl
theorem tX0_endService_22 : tbX0_endService 22 = (.ifCond .ne 6, 25, 28, 0, 0, 0, []) := rfl
theorem tX0_endService_25 : tbX0_endService 25 = (.bipush (-2), 27, 0, 0, 0, -2, []) := rfl
theorem tX0_endService_27 : tbX0_endService 27 = (.ireturn, 28, 0, 0, 0, 0, []) := rfl
theorem tX0_endService_28 : tbX0_endService 28 = (.aload_n 0, 29, 0, 0, 0, 0, []) := rfl
theorem tX0_endService_29 : tbX0_endService 29 = (.getfield 28, 32, 0, 9, 0, 0, [(0, 0)]) := rfl
theorem tX0_endService_32 : tbX0_endService 32 = (.aload_n 0, 33, 0, 0, 0, 0, []) := rfl
theorem tX0_endService_33 : tbX0_endService 33 = (.getfield 28, 36, 0, 9, 0, 0, [(0, 0)]) := rfl
theorem tX0_endService_36 : tbX0_endService 36 = (.getfield 91, 39, 5, 1, 0, 0, []) := rfl
theorem tX0_endService_39 : tbX0_endService 39 = (.iconst 1, 40, 0, 0, 0, 1, []) := rfl
theorem tX0_endService_40 : tbX0_endService 40 = (.isub, 41, 0, 0, 0, 0, []) := rfl
theorem tX0_endService_41 : tbX0_endService 41 = (.invokevirtual 166, 44, 62, 1, 5, 0, []) := rfl
theorem tX0_endService_44 : tbX0_endService 44 = (.aload_n 0, 45, 0, 0, 0, 0, []) := rfl
theorem tX0_endService_45 : tbX0_endService 45 = (.getfield 20, 48, 0, 1, 0, 0, [(0, 0)]) := rfl
theorem tX0_endService_48 : tbX0_endService 48 = (.iload_n 1, 49, 0, 0, 0, 0, []) := rfl
theorem tX0_endService_49 : tbX0_endService 49 = (.aaload, 50, 0, 0, 0, 0, []) := rfl
theorem tX0_endService_50 : tbX0_endService 50 = (.iconst 2, 51, 0, 0, 0, 2, []) := rfl
theorem tX0_endService_51 : tbX0_endService 51 = (.putfield 144, 54, 3, 5, 0, 0, []) := rfl
theorem tX0_endService_54 : tbX0_endService 54 = (.aload_n 0, 55, 0, 0, 0, 0, []) := rfl
theorem tX0_endService_55 : tbX0_endService 55 = (.getfield 20, 58, 0, 1, 0, 0, [(0, 0)]) := rfl
theorem tX0_endService_58 : tbX0_endService 58 = (.iload_n 1, 59, 0, 0, 0, 0, []) := rfl
theorem tX0_endService_59 : tbX0_endService 59 = (.aaload, 60, 0, 0, 0, 0, []) := rfl
theorem tX0_endService_60 : tbX0_endService 60 = (.aload_n 0, 61, 0, 0, 0, 0, []) := rfl
theorem tX0_endService_61 : tbX0_endService 61 = (.getfield 65, 64, 0, 5, 0, 0, []) := rfl
theorem tX0_endService_64 : tbX0_endService 64 = (.aload_n 0, 65, 0, 0, 0, 0, []) := rfl
theorem tX0_endService_65 : tbX0_endService 65 = (.getfield 49, 68, 0, 7, 0, 0, []) := rfl
theorem tX0_endService_68 : tbX0_endService 68 = (.iadd, 69, 0, 0, 0, 0, []) := rfl
theorem tX0_endService_69 : tbX0_endService 69 = (.putfield 169, 72, 3, 11, 0, 0, []) := rfl
theorem tX0_endService_72 : tbX0_endService 72 = (.aload_n 0, 73, 0, 0, 0, 0, []) := rfl
theorem tX0_endService_73 : tbX0_endService 73 = (.iload_n 1, 74, 0, 0, 0, 0, []) := rfl
theorem tX0_endService_74 : tbX0_endService 74 = (.invokevirtual 172, 77, 15, 1, 0, 0, []) := rfl
theorem tX0_endService_77 : tbX0_endService 77 = (.aload_n 0, 78, 0, 0, 0, 0, []) := rfl
theorem tX0_endService_78 : tbX0_endService 78 = (.invokevirtual 175, 81, 16, 0, 0, 0, []) := rfl
theorem tX0_endService_81 : tbX0_endService 81 = (.pop, 82, 0, 0, 0, 0, []) := rfl
theorem tX0_endService_82 : tbX0_endService 82 = (.iload_n 1, 83, 0, 0, 0, 0, []) := rfl
theorem tX0_endService_83 : tbX0_endService 83 = (.ireturn, 84, 0, 0, 0, 0, []) := rfl
def ltX0_passTicks : List (Nat × pm_E) := [(0, .iload_n 1, 1, 0, 0, 0, 0, []), (1, .iconst 1, 2, 0, 0, 0, 1, []), (2, .if_icmp .lt 9, 5, 11, 0, 0, 0, []), (5, .iload_n 1, 6, 0, 0, 0, 0, []), (6, .bipush 99, 8, 0, 0, 0, 99, []), (8, .if_icmp .le 5, 11, 13, 0, 0, 0, []), (11, .iconst (-1), 12, 0, 0, 0, -1, []), (12, .ireturn, 13, 0, 0, 0, 0, []), (13, .aload_n 0, 14, 0, 0, 0, 0, []), (14, .getfield 65, 17, 0, 5, 0, 0, []), (17, .iload_n 1, 18, 0, 0, 0, 0, []), (18, .iadd, 19, 0, 0, 0, 0, []), (19, .ldc 178, 21, 0, 0, 0, 50000, []), (21, .if_icmp .le 6, 24, 27, 0, 0, 0, []), (24, .bipush (-3), 26, 0, 0, 0, -3, []), (26, .ireturn, 27, 0, 0, 0, 0, []), (27, .aload_n 0, 28, 0, 0, 0, 0, []), (28, .dup, 29, 0, 0, 0, 0, []), (29, .getfield 65, 32, 0, 5, 0, 0, []), (32, .iload_n 1, 33, 0, 0, 0, 0, []), (33, .iadd, 34, 0, 0, 0, 0, []), (34, .putfield 65, 37, 0, 5, 0, 0, []), (37, .aload_n 0, 38, 0, 0, 0, 0, []), (38, .invokevirtual 175, 41, 16, 0, 0, 0, []), (41, .ireturn, 42, 0, 0, 0, 0, [])]
def tbX0_passTicks : Nat → pm_E := pm_lk ltX0_passTicks
theorem okX0_passTicks : ∀ pc, (tbX0_passTicks pc).1 = .nop ∨ pm_ok mX0_passTicks pw_Ms pc (tbX0_passTicks pc) := pm_lk_ok (by decide +kernel)
theorem nr_X0_passTicks : mX0_passTicks.2.2.2 = (some .int) := rfl
theorem tX0_passTicks_0 : tbX0_passTicks 0 = (.iload_n 1, 1, 0, 0, 0, 0, []) := rfl
theorem tX0_passTicks_1 : tbX0_passTicks 1 = (.iconst 1, 2, 0, 0, 0, 1, []) := rfl
theorem tX0_passTicks_2 : tbX0_passTicks 2 = (.if_icmp .lt 9, 5, 11, 0, 0, 0, []) := rfl
theorem tX0_passTicks_5 : tbX0_passTicks 5 = (.iload_n 1, 6, 0, 0, 0, 0, []) := rfl
theorem tX0_passTicks_6 : tbX0_passTicks 6 = (.bipush 99, 8, 0, 0, 0, 99, []) := rfl
theorem tX0_passTicks_8 : tbX0_passTicks 8 = (.if_icmp .le 5, 11, 13, 0, 0, 0, []) := rfl
theorem tX0_passTicks_11 : tbX0_passTicks 11 = (.iconst (-1), 12, 0, 0, 0, -1, []) := rfl
theorem tX0_passTicks_12 : tbX0_passTicks 12 = (.ireturn, 13, 0, 0, 0, 0, []) := rfl
theorem tX0_passTicks_13 : tbX0_passTicks 13 = (.aload_n 0, 14, 0, 0, 0, 0, []) := rfl
theorem tX0_passTicks_14 : tbX0_passTicks 14 = (.getfield 65, 17, 0, 5, 0, 0, []) := rfl
theorem tX0_passTicks_17 : tbX0_passTicks 17 = (.iload_n 1, 18, 0, 0, 0, 0, []) := rfl
theorem tX0_passTicks_18 : tbX0_passTicks 18 = (.iadd, 19, 0, 0, 0, 0, []) := rfl
theorem tX0_passTicks_19 : tbX0_passTicks 19 = (.ldc 178, 21, 0, 0, 0, 50000, []) := rfl
theorem tX0_passTicks_21 : tbX0_passTicks 21 = (.if_icmp .le 6, 24, 27, 0, 0, 0, []) := rfl
theorem tX0_passTicks_24 : tbX0_passTicks 24 = (.bipush (-3), 26, 0, 0, 0, -3, []) := rfl
theorem tX0_passTicks_26 : tbX0_passTicks 26 = (.ireturn, 27, 0, 0, 0, 0, []) := rfl
theorem tX0_passTicks_27 : tbX0_passTicks 27 = (.aload_n 0, 28, 0, 0, 0, 0, []) := rfl
theorem tX0_passTicks_28 : tbX0_passTicks 28 = (.dup, 29, 0, 0, 0, 0, []) := rfl
theorem tX0_passTicks_29 : tbX0_passTicks 29 = (.getfield 65, 32, 0, 5, 0, 0, []) := rfl
theorem tX0_passTicks_32 : tbX0_passTicks 32 = (.iload_n 1, 33, 0, 0, 0, 0, []) := rfl
theorem tX0_passTicks_33 : tbX0_passTicks 33 = (.iadd, 34, 0, 0, 0, 0, []) := rfl
theorem tX0_passTicks_34 : tbX0_passTicks 34 = (.putfield 65, 37, 0, 5, 0, 0, []) := rfl
theorem tX0_passTicks_37 : tbX0_passTicks 37 = (.aload_n 0, 38, 0, 0, 0, 0, []) := rfl
theorem tX0_passTicks_38 : tbX0_passTicks 38 = (.invokevirtual 175, 41, 16, 0, 0, 0, []) := rfl
theorem tX0_passTicks_41 : tbX0_passTicks 41 = (.ireturn, 42, 0, 0, 0, 0, []) := rfl
def ltX0_queueAcknowledge : List (Nat × pm_E) := [(0, .aload_n 0, 1, 0, 0, 0, 0, []), (1, .getfield 20, 4, 0, 1, 0, 0, [(0, 0)]), (4, .iload_n 1, 5, 0, 0, 0, 0, []), (5, .aaload, 6, 0, 0, 0, 0, []), (6, .getfield 169, 9, 3, 11, 0, 0, []), (9, .istore_n 2, 10, 0, 0, 0, 0, []), (10, .aload_n 0, 11, 0, 0, 0, 0, []), (11, .getfield 32, 14, 0, 10, 0, 0, [(0, 0)]), (14, .getfield 91, 17, 5, 1, 0, 0, []), (17, .istore_n 3, 18, 0, 0, 0, 0, []), (18, .aload_n 0, 19, 0, 0, 0, 0, []), (19, .getfield 32, 22, 0, 10, 0, 0, [(0, 0)]), (22, .getfield 91, 25, 5, 1, 0, 0, []), (25, .iconst 1, 26, 0, 0, 0, 1, []), (26, .isub, 27, 0, 0, 0, 0, []), (27, .istore 4, 29, 0, 0, 0, 0, []), (29, .iload 4, 31, 0, 0, 0, 0, []), (31, .ifCond .lt 46, 34, 77, 0, 0, 0, []), (34, .aload_n 0, 35, 0, 0, 0, 0, []), (35, .getfield 32, 38, 0, 10, 0, 0, [(0, 0)]), (38, .iload 4, 40, 0, 0, 0, 0, []), (40, .invokevirtual 163, 43, 60, 1, 5, 0, []), (43, .istore 5, 45, 0, 0, 0, 0, []), (45, .aload_n 0, 46, 0, 0, 0, 0, []), (46, .iload 5, 48, 0, 0, 0, 0, []), (48, .invokevirtual 107, 51, 3, 1, 0, 0, []), (51, .ifCond .eq 20, 54, 71, 0, 0, 0, []), (54, .aload_n 0, 55, 0, 0, 0, 0, []), (55, .getfield 20, 58, 0, 1, 0, 0, [(0, 0)]), (58, .iload 5, 60, 0, 0, 0, 0, []), (60, .aaload, 61, 0, 0, 0, 0, []), (61, .getfield 169, 64, 3, 11, 0, 0, []), (64, .iload_n 2, 65, 0, 0, 0, 0, []), (65, .if_icmp .le 6, 68, 71, 0, 0, 0, []), (68, .iload 4, 70, 0, 0, 0, 0, []), (70, .istore_n 3, 71, 0, 0, 0, 0, []), (71, .iinc 4 (-1), 74, 0, 0, 0, -1, []), (74, .goto (-45), 77, 29, 0, 0, 0, []), (77, .aload_n 0, 78, 0, 0, 0, 0, []), (78, .getfield 32, 81, 0, 10, 0, 0, [(0, 0)]), (81, .iload_n 3, 82, 0, 0, 0, 0, []), (82, .iload_n 1, 83, 0, 0, 0, 0, []), (83, .invokevirtual 94, 86, 61, 2, 5, 0, []), (86, .return_, 87, 0, 0, 0, 0, [])]
def tbX0_queueAcknowledge : Nat → pm_E := pm_lk ltX0_queueAcknowledge
theorem okX0_queueAcknowledge : ∀ pc, (tbX0_queueAcknowledge pc).1 = .nop ∨ pm_ok mX0_queueAcknowledge pw_Ms pc (tbX0_queueAcknowledge pc) := pm_lk_ok (by decide +kernel)
theorem nr_X0_queueAcknowledge : mX0_queueAcknowledge.2.2.2 = none := rfl
theorem tX0_queueAcknowledge_0 : tbX0_queueAcknowledge 0 = (.aload_n 0, 1, 0, 0, 0, 0, []) := rfl
theorem tX0_queueAcknowledge_1 : tbX0_queueAcknowledge 1 = (.getfield 20, 4, 0, 1, 0, 0, [(0, 0)]) := rfl
theorem tX0_queueAcknowledge_4 : tbX0_queueAcknowledge 4 = (.iload_n 1, 5, 0, 0, 0, 0, []) := rfl
theorem tX0_queueAcknowledge_5 : tbX0_queueAcknowledge 5 = (.aaload, 6, 0, 0, 0, 0, []) := rfl
theorem tX0_queueAcknowledge_6 : tbX0_queueAcknowledge 6 = (.getfield 169, 9, 3, 11, 0, 0, []) := rfl
theorem tX0_queueAcknowledge_9 : tbX0_queueAcknowledge 9 = (.istore_n 2, 10, 0, 0, 0, 0, []) := rfl
theorem tX0_queueAcknowledge_10 : tbX0_queueAcknowledge 10 = (.aload_n 0, 11, 0, 0, 0, 0, []) := rfl
theorem tX0_queueAcknowledge_11 : tbX0_queueAcknowledge 11 = (.getfield 32, 14, 0, 10, 0, 0, [(0, 0)]) := rfl
theorem tX0_queueAcknowledge_14 : tbX0_queueAcknowledge 14 = (.getfield 91, 17, 5, 1, 0, 0, []) := rfl
theorem tX0_queueAcknowledge_17 : tbX0_queueAcknowledge 17 = (.istore_n 3, 18, 0, 0, 0, 0, []) := rfl
theorem tX0_queueAcknowledge_18 : tbX0_queueAcknowledge 18 = (.aload_n 0, 19, 0, 0, 0, 0, []) := rfl
theorem tX0_queueAcknowledge_19 : tbX0_queueAcknowledge 19 = (.getfield 32, 22, 0, 10, 0, 0, [(0, 0)]) := rfl
theorem tX0_queueAcknowledge_22 : tbX0_queueAcknowledge 22 = (.getfield 91, 25, 5, 1, 0, 0, []) := rfl
theorem tX0_queueAcknowledge_25 : tbX0_queueAcknowledge 25 = (.iconst 1, 26, 0, 0, 0, 1, []) := rfl
theorem tX0_queueAcknowledge_26 : tbX0_queueAcknowledge 26 = (.isub, 27, 0, 0, 0, 0, []) := rfl
theorem tX0_queueAcknowledge_27 : tbX0_queueAcknowledge 27 = (.istore 4, 29, 0, 0, 0, 0, []) := rfl
theorem tX0_queueAcknowledge_29 : tbX0_queueAcknowledge 29 = (.iload 4, 31, 0, 0, 0, 0, []) := rfl
theorem tX0_queueAcknowledge_31 : tbX0_queueAcknowledge 31 = (.ifCond .lt 46, 34, 77, 0, 0, 0, []) := rfl
theorem tX0_queueAcknowledge_34 : tbX0_queueAcknowledge 34 = (.aload_n 0, 35, 0, 0, 0, 0, []) := rfl
theorem tX0_queueAcknowledge_35 : tbX0_queueAcknowledge 35 = (.getfield 32, 38, 0, 10, 0, 0, [(0, 0)]) := rfl
theorem tX0_queueAcknowledge_38 : tbX0_queueAcknowledge 38 = (.iload 4, 40, 0, 0, 0, 0, []) := rfl
theorem tX0_queueAcknowledge_40 : tbX0_queueAcknowledge 40 = (.invokevirtual 163, 43, 60, 1, 5, 0, []) := rfl
theorem tX0_queueAcknowledge_43 : tbX0_queueAcknowledge 43 = (.istore 5, 45, 0, 0, 0, 0, []) := rfl
theorem tX0_queueAcknowledge_45 : tbX0_queueAcknowledge 45 = (.aload_n 0, 46, 0, 0, 0, 0, []) := rfl
theorem tX0_queueAcknowledge_46 : tbX0_queueAcknowledge 46 = (.iload 5, 48, 0, 0, 0, 0, []) := rfl
theorem tX0_queueAcknowledge_48 : tbX0_queueAcknowledge 48 = (.invokevirtual 107, 51, 3, 1, 0, 0, []) := rfl
theorem tX0_queueAcknowledge_51 : tbX0_queueAcknowledge 51 = (.ifCond .eq 20, 54, 71, 0, 0, 0, []) := rfl
theorem tX0_queueAcknowledge_54 : tbX0_queueAcknowledge 54 = (.aload_n 0, 55, 0, 0, 0, 0, []) := rfl
theorem tX0_queueAcknowledge_55 : tbX0_queueAcknowledge 55 = (.getfield 20, 58, 0, 1, 0, 0, [(0, 0)]) := rfl
theorem tX0_queueAcknowledge_58 : tbX0_queueAcknowledge 58 = (.iload 5, 60, 0, 0, 0, 0, []) := rfl
theorem tX0_queueAcknowledge_60 : tbX0_queueAcknowledge 60 = (.aaload, 61, 0, 0, 0, 0, []) := rfl
theorem tX0_queueAcknowledge_61 : tbX0_queueAcknowledge 61 = (.getfield 169, 64, 3, 11, 0, 0, []) := rfl
theorem tX0_queueAcknowledge_64 : tbX0_queueAcknowledge 64 = (.iload_n 2, 65, 0, 0, 0, 0, []) := rfl
theorem tX0_queueAcknowledge_65 : tbX0_queueAcknowledge 65 = (.if_icmp .le 6, 68, 71, 0, 0, 0, []) := rfl
theorem tX0_queueAcknowledge_68 : tbX0_queueAcknowledge 68 = (.iload 4, 70, 0, 0, 0, 0, []) := rfl
theorem tX0_queueAcknowledge_70 : tbX0_queueAcknowledge 70 = (.istore_n 3, 71, 0, 0, 0, 0, []) := rfl
theorem tX0_queueAcknowledge_71 : tbX0_queueAcknowledge 71 = (.iinc 4 (-1), 74, 0, 0, 0, -1, []) := rfl
theorem tX0_queueAcknowledge_74 : tbX0_queueAcknowledge 74 = (.goto (-45), 77, 29, 0, 0, 0, []) := rfl
theorem tX0_queueAcknowledge_77 : tbX0_queueAcknowledge 77 = (.aload_n 0, 78, 0, 0, 0, 0, []) := rfl
theorem tX0_queueAcknowledge_78 : tbX0_queueAcknowledge 78 = (.getfield 32, 81, 0, 10, 0, 0, [(0, 0)]) := rfl
theorem tX0_queueAcknowledge_81 : tbX0_queueAcknowledge 81 = (.iload_n 3, 82, 0, 0, 0, 0, []) := rfl
theorem tX0_queueAcknowledge_82 : tbX0_queueAcknowledge 82 = (.iload_n 1, 83, 0, 0, 0, 0, []) := rfl
theorem tX0_queueAcknowledge_83 : tbX0_queueAcknowledge 83 = (.invokevirtual 94, 86, 61, 2, 5, 0, []) := rfl
theorem tX0_queueAcknowledge_86 : tbX0_queueAcknowledge 86 = (.return_, 87, 0, 0, 0, 0, []) := rfl
def ltX0_acknowledgeDue : List (Nat × pm_E) := [(0, .iconst 0, 1, 0, 0, 0, 0, []), (1, .istore_n 1, 2, 0, 0, 0, 0, []), (2, .iconst 0, 3, 0, 0, 0, 0, []), (3, .istore_n 2, 4, 0, 0, 0, 0, []), (4, .iload_n 2, 5, 0, 0, 0, 0, []), (5, .bipush 16, 7, 0, 0, 0, 16, []), (7, .if_icmp .ge 66, 10, 73, 0, 0, 0, []), (10, .aload_n 0, 11, 0, 0, 0, 0, []), (11, .getfield 32, 14, 0, 10, 0, 0, [(0, 0)]), (14, .iconst 0, 15, 0, 0, 0, 0, []), (15, .invokevirtual 163, 18, 60, 1, 5, 0, []), (18, .istore_n 3, 19, 0, 0, 0, 0, []), (19, .aload_n 0, 20, 0, 0, 0, 0, []), (20, .iload_n 3, 21, 0, 0, 0, 0, []), (21, .invokevirtual 107, 24, 3, 1, 0, 0, []), (24, .ifCond .eq 49, 27, 73, 0, 0, 0, []), (27, .aload_n 0, 28, 0, 0, 0, 0, []), (28, .getfield 20, 31, 0, 1, 0, 0, [(0, 0)]), (31, .iload_n 3, 32, 0, 0, 0, 0, []), (32, .aaload, 33, 0, 0, 0, 0, []), (33, .getfield 169, 36, 3, 11, 0, 0, []), (36, .aload_n 0, 37, 0, 0, 0, 0, []), (37, .getfield 65, 40, 0, 5, 0, 0, []), (40, .if_icmp .le 6, 43, 46, 0, 0, 0, []), (43, .goto 30, 46, 73, 0, 0, 0, []), (46, .aload_n 0, 47, 0, 0, 0, 0, []), (47, .getfield 32, 50, 0, 10, 0, 0, [(0, 0)]), (50, .iconst 0, 51, 0, 0, 0, 0, []), (51, .invokevirtual 166, 54, 62, 1, 5, 0, []), (54, .aload_n 0, 55, 0, 0, 0, 0, []), (55, .getfield 20, 58, 0, 1, 0, 0, [(0, 0)]), (58, .iload_n 3, 59, 0, 0, 0, 0, []), (59, .aaload, 60, 0, 0, 0, 0, []), (60, .iconst 0, 61, 0, 0, 0, 0, []), (61, .putfield 144, 64, 3, 5, 0, 0, []), (64, .iinc 1 1, 67, 0, 0, 0, 1, []), (67, .iinc 2 1, 70, 0, 0, 0, 1, []), (70, .goto (-66), 73, 4, 0, 0, 0, []), (73, .aload_n 0, 74, 0, 0, 0, 0, []), (74, .dup, 75, 0, 0, 0, 0, []), (75, .getfield 71, 78, 0, 8, 0, 0, []), (78, .iload_n 1, 79, 0, 0, 0, 0, []), (79, .iadd, 80, 0, 0, 0, 0, []), (80, .putfield 71, 83, 0, 8, 0, 0, []), (83, .iload_n 1, 84, 0, 0, 0, 0, []), (84, .ireturn, 85, 0, 0, 0, 0, [])]
def tbX0_acknowledgeDue : Nat → pm_E := pm_lk ltX0_acknowledgeDue
theorem okX0_acknowledgeDue : ∀ pc, (tbX0_acknowledgeDue pc).1 = .nop ∨ pm_ok mX0_acknowledgeDue pw_Ms pc (tbX0_acknowledgeDue pc) := pm_lk_ok (by decide +kernel)
theorem nr_X0_acknowledgeDue : mX0_acknowledgeDue.2.2.2 = (some .int) := rfl
theorem tX0_acknowledgeDue_0 : tbX0_acknowledgeDue 0 = (.iconst 0, 1, 0, 0, 0, 0, []) := rfl
theorem tX0_acknowledgeDue_1 : tbX0_acknowledgeDue 1 = (.istore_n 1, 2, 0, 0, 0, 0, []) := rfl
theorem tX0_acknowledgeDue_2 : tbX0_acknowledgeDue 2 = (.iconst 0, 3, 0, 0, 0, 0, []) := rfl
theorem tX0_acknowledgeDue_3 : tbX0_acknowledgeDue 3 = (.istore_n 2, 4, 0, 0, 0, 0, []) := rfl
theorem tX0_acknowledgeDue_4 : tbX0_acknowledgeDue 4 = (.iload_n 2, 5, 0, 0, 0, 0, []) := rfl
theorem tX0_acknowledgeDue_5 : tbX0_acknowledgeDue 5 = (.bipush 16, 7, 0, 0, 0, 16, []) := rfl
theorem tX0_acknowledgeDue_7 : tbX0_acknowledgeDue 7 = (.if_icmp .ge 66, 10, 73, 0, 0, 0, []) := rfl
theorem tX0_acknowledgeDue_10 : tbX0_acknowledgeDue 10 = (.aload_n 0, 11, 0, 0, 0, 0, []) := rfl
theorem tX0_acknowledgeDue_11 : tbX0_acknowledgeDue 11 = (.getfield 32, 14, 0, 10, 0, 0, [(0, 0)]) := rfl
theorem tX0_acknowledgeDue_14 : tbX0_acknowledgeDue 14 = (.iconst 0, 15, 0, 0, 0, 0, []) := rfl
theorem tX0_acknowledgeDue_15 : tbX0_acknowledgeDue 15 = (.invokevirtual 163, 18, 60, 1, 5, 0, []) := rfl
theorem tX0_acknowledgeDue_18 : tbX0_acknowledgeDue 18 = (.istore_n 3, 19, 0, 0, 0, 0, []) := rfl
theorem tX0_acknowledgeDue_19 : tbX0_acknowledgeDue 19 = (.aload_n 0, 20, 0, 0, 0, 0, []) := rfl
theorem tX0_acknowledgeDue_20 : tbX0_acknowledgeDue 20 = (.iload_n 3, 21, 0, 0, 0, 0, []) := rfl
theorem tX0_acknowledgeDue_21 : tbX0_acknowledgeDue 21 = (.invokevirtual 107, 24, 3, 1, 0, 0, []) := rfl
theorem tX0_acknowledgeDue_24 : tbX0_acknowledgeDue 24 = (.ifCond .eq 49, 27, 73, 0, 0, 0, []) := rfl
theorem tX0_acknowledgeDue_27 : tbX0_acknowledgeDue 27 = (.aload_n 0, 28, 0, 0, 0, 0, []) := rfl
theorem tX0_acknowledgeDue_28 : tbX0_acknowledgeDue 28 = (.getfield 20, 31, 0, 1, 0, 0, [(0, 0)]) := rfl
theorem tX0_acknowledgeDue_31 : tbX0_acknowledgeDue 31 = (.iload_n 3, 32, 0, 0, 0, 0, []) := rfl
theorem tX0_acknowledgeDue_32 : tbX0_acknowledgeDue 32 = (.aaload, 33, 0, 0, 0, 0, []) := rfl
theorem tX0_acknowledgeDue_33 : tbX0_acknowledgeDue 33 = (.getfield 169, 36, 3, 11, 0, 0, []) := rfl
theorem tX0_acknowledgeDue_36 : tbX0_acknowledgeDue 36 = (.aload_n 0, 37, 0, 0, 0, 0, []) := rfl
theorem tX0_acknowledgeDue_37 : tbX0_acknowledgeDue 37 = (.getfield 65, 40, 0, 5, 0, 0, []) := rfl
theorem tX0_acknowledgeDue_40 : tbX0_acknowledgeDue 40 = (.if_icmp .le 6, 43, 46, 0, 0, 0, []) := rfl
theorem tX0_acknowledgeDue_43 : tbX0_acknowledgeDue 43 = (.goto 30, 46, 73, 0, 0, 0, []) := rfl
theorem tX0_acknowledgeDue_46 : tbX0_acknowledgeDue 46 = (.aload_n 0, 47, 0, 0, 0, 0, []) := rfl
theorem tX0_acknowledgeDue_47 : tbX0_acknowledgeDue 47 = (.getfield 32, 50, 0, 10, 0, 0, [(0, 0)]) := rfl
theorem tX0_acknowledgeDue_50 : tbX0_acknowledgeDue 50 = (.iconst 0, 51, 0, 0, 0, 0, []) := rfl
theorem tX0_acknowledgeDue_51 : tbX0_acknowledgeDue 51 = (.invokevirtual 166, 54, 62, 1, 5, 0, []) := rfl
theorem tX0_acknowledgeDue_54 : tbX0_acknowledgeDue 54 = (.aload_n 0, 55, 0, 0, 0, 0, []) := rfl
theorem tX0_acknowledgeDue_55 : tbX0_acknowledgeDue 55 = (.getfield 20, 58, 0, 1, 0, 0, [(0, 0)]) := rfl
theorem tX0_acknowledgeDue_58 : tbX0_acknowledgeDue 58 = (.iload_n 3, 59, 0, 0, 0, 0, []) := rfl
theorem tX0_acknowledgeDue_59 : tbX0_acknowledgeDue 59 = (.aaload, 60, 0, 0, 0, 0, []) := rfl
theorem tX0_acknowledgeDue_60 : tbX0_acknowledgeDue 60 = (.iconst 0, 61, 0, 0, 0, 0, []) := rfl
theorem tX0_acknowledgeDue_61 : tbX0_acknowledgeDue 61 = (.putfield 144, 64, 3, 5, 0, 0, []) := rfl
theorem tX0_acknowledgeDue_64 : tbX0_acknowledgeDue 64 = (.iinc 1 1, 67, 0, 0, 0, 1, []) := rfl
theorem tX0_acknowledgeDue_67 : tbX0_acknowledgeDue 67 = (.iinc 2 1, 70, 0, 0, 0, 1, []) := rfl
theorem tX0_acknowledgeDue_70 : tbX0_acknowledgeDue 70 = (.goto (-66), 73, 4, 0, 0, 0, []) := rfl
theorem tX0_acknowledgeDue_73 : tbX0_acknowledgeDue 73 = (.aload_n 0, 74, 0, 0, 0, 0, []) := rfl
theorem tX0_acknowledgeDue_74 : tbX0_acknowledgeDue 74 = (.dup, 75, 0, 0, 0, 0, []) := rfl
theorem tX0_acknowledgeDue_75 : tbX0_acknowledgeDue 75 = (.getfield 71, 78, 0, 8, 0, 0, []) := rfl
theorem tX0_acknowledgeDue_78 : tbX0_acknowledgeDue 78 = (.iload_n 1, 79, 0, 0, 0, 0, []) := rfl
theorem tX0_acknowledgeDue_79 : tbX0_acknowledgeDue 79 = (.iadd, 80, 0, 0, 0, 0, []) := rfl
theorem tX0_acknowledgeDue_80 : tbX0_acknowledgeDue 80 = (.putfield 71, 83, 0, 8, 0, 0, []) := rfl
theorem tX0_acknowledgeDue_83 : tbX0_acknowledgeDue 83 = (.iload_n 1, 84, 0, 0, 0, 0, []) := rfl
theorem tX0_acknowledgeDue_84 : tbX0_acknowledgeDue 84 = (.ireturn, 85, 0, 0, 0, 0, []) := rfl
def ltX0_turnInputs : List (Nat × pm_E) := [(0, .iload_n 1, 1, 0, 0, 0, 0, []), (1, .istore_n 2, 2, 0, 0, 0, 0, []), (2, .aload_n 0, 3, 0, 0, 0, 0, []), (3, .getfield 20, 6, 0, 1, 0, 0, [(0, 0)]), (6, .iload_n 1, 7, 0, 0, 0, 0, []), (7, .aaload, 8, 0, 0, 0, 0, []), (8, .getfield 98, 11, 3, 0, 0, 0, []), (11, .istore_n 3, 12, 0, 0, 0, 0, []), (12, .iconst 0, 13, 0, 0, 0, 0, []), (13, .istore 4, 15, 0, 0, 0, 0, []), (15, .iload 4, 17, 0, 0, 0, 0, []), (17, .bipush 6, 19, 0, 0, 0, 6, []), (19, .if_icmp .ge 57, 22, 76, 0, 0, 0, []), (22, .aload_n 0, 23, 0, 0, 0, 0, []), (23, .iload_n 3, 24, 0, 0, 0, 0, []), (24, .invokevirtual 77, 27, 2, 1, 0, 0, []), (27, .ifCond .eq 49, 30, 76, 0, 0, 0, []), (30, .aload_n 0, 31, 0, 0, 0, 0, []), (31, .getfield 11, 34, 0, 0, 0, 0, [(0, 0)]), (34, .iload_n 3, 35, 0, 0, 0, 0, []), (35, .aaload, 36, 0, 0, 0, 0, []), (36, .getfield 84, 39, 4, 2, 0, 0, []), (39, .ifCond .eq 16, 42, 55, 0, 0, 0, []), (42, .aload_n 0, 43, 0, 0, 0, 0, []), (43, .getfield 11, 46, 0, 0, 0, 0, [(0, 0)]), (46, .iload_n 3, 47, 0, 0, 0, 0, []), (47, .aaload, 48, 0, 0, 0, 0, []), (48, .getfield 88, 51, 4, 0, 0, 0, [(0, 0)]), (51, .iload_n 2, 52, 0, 0, 0, 0, []), (52, .invokevirtual 179, 55, 63, 1, 5, 0, []), (55, .bipush 100, 57, 0, 0, 0, 100, []), (57, .iload_n 3, 58, 0, 0, 0, 0, []), (58, .iadd, 59, 0, 0, 0, 0, []), (59, .istore_n 2, 60, 0, 0, 0, 0, []), (60, .aload_n 0, 61, 0, 0, 0, 0, []), (61, .getfield 11, 64, 0, 0, 0, 0, [(0, 0)]), (64, .iload_n 3, 65, 0, 0, 0, 0, []), (65, .aaload, 66, 0, 0, 0, 0, []), (66, .getfield 39, 69, 4, 1, 0, 0, []), (69, .istore_n 3, 70, 0, 0, 0, 0, []), (70, .iinc 4 1, 73, 0, 0, 0, 1, []), (73, .goto (-58), 76, 15, 0, 0, 0, []), (76, .return_, 77, 0, 0, 0, 0, [])]
def tbX0_turnInputs : Nat → pm_E := pm_lk ltX0_turnInputs
theorem okX0_turnInputs : ∀ pc, (tbX0_turnInputs pc).1 = .nop ∨ pm_ok mX0_turnInputs pw_Ms pc (tbX0_turnInputs pc) := pm_lk_ok (by decide +kernel)
theorem nr_X0_turnInputs : mX0_turnInputs.2.2.2 = none := rfl
theorem tX0_turnInputs_0 : tbX0_turnInputs 0 = (.iload_n 1, 1, 0, 0, 0, 0, []) := rfl
theorem tX0_turnInputs_1 : tbX0_turnInputs 1 = (.istore_n 2, 2, 0, 0, 0, 0, []) := rfl
theorem tX0_turnInputs_2 : tbX0_turnInputs 2 = (.aload_n 0, 3, 0, 0, 0, 0, []) := rfl
theorem tX0_turnInputs_3 : tbX0_turnInputs 3 = (.getfield 20, 6, 0, 1, 0, 0, [(0, 0)]) := rfl
theorem tX0_turnInputs_6 : tbX0_turnInputs 6 = (.iload_n 1, 7, 0, 0, 0, 0, []) := rfl
theorem tX0_turnInputs_7 : tbX0_turnInputs 7 = (.aaload, 8, 0, 0, 0, 0, []) := rfl
theorem tX0_turnInputs_8 : tbX0_turnInputs 8 = (.getfield 98, 11, 3, 0, 0, 0, []) := rfl
theorem tX0_turnInputs_11 : tbX0_turnInputs 11 = (.istore_n 3, 12, 0, 0, 0, 0, []) := rfl
theorem tX0_turnInputs_12 : tbX0_turnInputs 12 = (.iconst 0, 13, 0, 0, 0, 0, []) := rfl
theorem tX0_turnInputs_13 : tbX0_turnInputs 13 = (.istore 4, 15, 0, 0, 0, 0, []) := rfl
theorem tX0_turnInputs_15 : tbX0_turnInputs 15 = (.iload 4, 17, 0, 0, 0, 0, []) := rfl
theorem tX0_turnInputs_17 : tbX0_turnInputs 17 = (.bipush 6, 19, 0, 0, 0, 6, []) := rfl
theorem tX0_turnInputs_19 : tbX0_turnInputs 19 = (.if_icmp .ge 57, 22, 76, 0, 0, 0, []) := rfl
theorem tX0_turnInputs_22 : tbX0_turnInputs 22 = (.aload_n 0, 23, 0, 0, 0, 0, []) := rfl
theorem tX0_turnInputs_23 : tbX0_turnInputs 23 = (.iload_n 3, 24, 0, 0, 0, 0, []) := rfl
theorem tX0_turnInputs_24 : tbX0_turnInputs 24 = (.invokevirtual 77, 27, 2, 1, 0, 0, []) := rfl
theorem tX0_turnInputs_27 : tbX0_turnInputs 27 = (.ifCond .eq 49, 30, 76, 0, 0, 0, []) := rfl
theorem tX0_turnInputs_30 : tbX0_turnInputs 30 = (.aload_n 0, 31, 0, 0, 0, 0, []) := rfl
theorem tX0_turnInputs_31 : tbX0_turnInputs 31 = (.getfield 11, 34, 0, 0, 0, 0, [(0, 0)]) := rfl
theorem tX0_turnInputs_34 : tbX0_turnInputs 34 = (.iload_n 3, 35, 0, 0, 0, 0, []) := rfl
theorem tX0_turnInputs_35 : tbX0_turnInputs 35 = (.aaload, 36, 0, 0, 0, 0, []) := rfl
theorem tX0_turnInputs_36 : tbX0_turnInputs 36 = (.getfield 84, 39, 4, 2, 0, 0, []) := rfl
theorem tX0_turnInputs_39 : tbX0_turnInputs 39 = (.ifCond .eq 16, 42, 55, 0, 0, 0, []) := rfl
theorem tX0_turnInputs_42 : tbX0_turnInputs 42 = (.aload_n 0, 43, 0, 0, 0, 0, []) := rfl
theorem tX0_turnInputs_43 : tbX0_turnInputs 43 = (.getfield 11, 46, 0, 0, 0, 0, [(0, 0)]) := rfl
theorem tX0_turnInputs_46 : tbX0_turnInputs 46 = (.iload_n 3, 47, 0, 0, 0, 0, []) := rfl
theorem tX0_turnInputs_47 : tbX0_turnInputs 47 = (.aaload, 48, 0, 0, 0, 0, []) := rfl
theorem tX0_turnInputs_48 : tbX0_turnInputs 48 = (.getfield 88, 51, 4, 0, 0, 0, [(0, 0)]) := rfl
theorem tX0_turnInputs_51 : tbX0_turnInputs 51 = (.iload_n 2, 52, 0, 0, 0, 0, []) := rfl
theorem tX0_turnInputs_52 : tbX0_turnInputs 52 = (.invokevirtual 179, 55, 63, 1, 5, 0, []) := rfl
theorem tX0_turnInputs_55 : tbX0_turnInputs 55 = (.bipush 100, 57, 0, 0, 0, 100, []) := rfl
theorem tX0_turnInputs_57 : tbX0_turnInputs 57 = (.iload_n 3, 58, 0, 0, 0, 0, []) := rfl
theorem tX0_turnInputs_58 : tbX0_turnInputs 58 = (.iadd, 59, 0, 0, 0, 0, []) := rfl
theorem tX0_turnInputs_59 : tbX0_turnInputs 59 = (.istore_n 2, 60, 0, 0, 0, 0, []) := rfl
theorem tX0_turnInputs_60 : tbX0_turnInputs 60 = (.aload_n 0, 61, 0, 0, 0, 0, []) := rfl
theorem tX0_turnInputs_61 : tbX0_turnInputs 61 = (.getfield 11, 64, 0, 0, 0, 0, [(0, 0)]) := rfl
theorem tX0_turnInputs_64 : tbX0_turnInputs 64 = (.iload_n 3, 65, 0, 0, 0, 0, []) := rfl
theorem tX0_turnInputs_65 : tbX0_turnInputs 65 = (.aaload, 66, 0, 0, 0, 0, []) := rfl
theorem tX0_turnInputs_66 : tbX0_turnInputs 66 = (.getfield 39, 69, 4, 1, 0, 0, []) := rfl
theorem tX0_turnInputs_69 : tbX0_turnInputs 69 = (.istore_n 3, 70, 0, 0, 0, 0, []) := rfl
theorem tX0_turnInputs_70 : tbX0_turnInputs 70 = (.iinc 4 1, 73, 0, 0, 0, 1, []) := rfl
theorem tX0_turnInputs_73 : tbX0_turnInputs 73 = (.goto (-58), 76, 15, 0, 0, 0, []) := rfl
theorem tX0_turnInputs_76 : tbX0_turnInputs 76 = (.return_, 77, 0, 0, 0, 0, []) := rfl
def ltX0_nextLine : List (Nat × pm_E) := [(0, .iconst (-1), 1, 0, 0, 0, -1, []), (1, .istore_n 1, 2, 0, 0, 0, 0, []), (2, .aload_n 0, 3, 0, 0, 0, 0, []), (3, .invokevirtual 182, 6, 20, 0, 0, 0, []), (6, .istore_n 2, 7, 0, 0, 0, 0, []), (7, .iconst 0, 8, 0, 0, 0, 0, []), (8, .istore_n 3, 9, 0, 0, 0, 0, []), (9, .iload_n 3, 10, 0, 0, 0, 0, []), (10, .bipush 6, 12, 0, 0, 0, 6, []), (12, .if_icmp .ge 16, 15, 28, 0, 0, 0, []), (15, .aload_n 0, 16, 0, 0, 0, 0, []), (16, .getfield 35, 19, 0, 11, 0, 0, [(0, 0)]), (19, .iload_n 3, 20, 0, 0, 0, 0, []), (20, .iconst 0, 21, 0, 0, 0, 0, []), (21, .iastore, 22, 0, 0, 0, 0, []), (22, .iinc 3 1, 25, 0, 0, 0, 1, []), (25, .goto (-16), 28, 9, 0, 0, 0, []), (28, .iconst 0, 29, 0, 0, 0, 0, []), (29, .istore_n 3, 30, 0, 0, 0, 0, []), (30, .iconst 0, 31, 0, 0, 0, 0, []), (31, .istore 4, 33, 0, 0, 0, 0, []), (33, .iload 4, 35, 0, 0, 0, 0, []), (35, .bipush 27, 37, 0, 0, 0, 27, []), (37, .if_icmp .ge 108, 40, 145, 0, 0, 0, []), (40, .aload_n 0, 41, 0, 0, 0, 0, []), (41, .iload_n 3, 42, 0, 0, 0, 0, []), (42, .invokevirtual 77, 45, 2, 1, 0, 0, []), (45, .ifCond .eq 100, 48, 145, 0, 0, 0, []), (48, .aload_n 0, 49, 0, 0, 0, 0, []), (49, .getfield 11, 52, 0, 0, 0, 0, [(0, 0)]), (52, .iload_n 3, 53, 0, 0, 0, 0, []), (53, .aaload, 54, 0, 0, 0, 0, []), (54, .getfield 88, 57, 4, 0, 0, 0, [(0, 0)]), (57, .aload_n 0, 58, 0, 0, 0, 0, []), (58, .getfield 35, 61, 0, 11, 0, 0, [(0, 0)]), (61, .iload_n 3, 62, 0, 0, 0, 0, []), (62, .iaload, 63, 0, 0, 0, 0, []), (63, .invokevirtual 163, 66, 60, 1, 5, 0, []), (66, .istore 5, 68, 0, 0, 0, 0, []), (68, .aload_n 0, 69, 0, 0, 0, 0, []), (69, .getfield 35, 72, 0, 11, 0, 0, [(0, 0)]), (72, .iload_n 3, 73, 0, 0, 0, 0, []), (73, .dup2, 74, 0, 0, 0, 0, []), (74, .iaload, 75, 0, 0, 0, 0, []), (75, .iconst 1, 76, 0, 0, 0, 1, []), (76, .iadd, 77, 0, 0, 0, 0, []), (77, .iastore, 78, 0, 0, 0, 0, []), (78, .iload 5, 80, 0, 0, 0, 0, []), (80, .iconst (-1), 81, 0, 0, 0, -1, []), (81, .if_icmp .ne 16, 84, 97, 0, 0, 0, []), (84, .aload_n 0, 85, 0, 0, 0, 0, []), (85, .getfield 11, 88, 0, 0, 0, 0, [(0, 0)]), (88, .iload_n 3, 89, 0, 0, 0, 0, []), (89, .aaload, 90, 0, 0, 0, 0, []), (90, .getfield 39, 93, 4, 1, 0, 0, []), (93, .istore_n 3, 94, 0, 0, 0, 0, []), (94, .goto 45, 97, 139, 0, 0, 0, []), (97, .iload 5, 99, 0, 0, 0, 0, []), (99, .bipush 100, 101, 0, 0, 0, 100, []), (101, .if_icmp .lt 12, 104, 113, 0, 0, 0, []), (104, .iload 5, 106, 0, 0, 0, 0, []), (106, .bipush 100, 108, 0, 0, 0, 100, []), (108, .isub, 109, 0, 0, 0, 0, []), (109, .istore_n 3, 110, 0, 0, 0, 0, []), (110, .goto 29, 113, 139, 0, 0, 0, []), (113, .aload_n 0, 114, 0, 0, 0, 0, []), (114, .iload 5, 116, 0, 0, 0, 0, []), (116, .iload_n 2, 117, 0, 0, 0, 0, []), (117, .invokevirtual 185, 120, 21, 2, 0, 0, []), (120, .ifCond .eq 19, 123, 139, 0, 0, 0, []), (123, .iload 5, 125, 0, 0, 0, 0, []), (125, .istore_n 1, 126, 0, 0, 0, 0, []), (126, .aload_n 0, 127, 0, 0, 0, 0, []), (127, .getfield 20, 130, 0, 1, 0, 0, [(0, 0)]), (130, .iload 5, 132, 0, 0, 0, 0, []), (132, .aaload, 133, 0, 0, 0, 0, []), (133, .getfield 101, 136, 3, 1, 0, 0, []), (136, .iconst 1, 137, 0, 0, 0, 1, []), (137, .iadd, 138, 0, 0, 0, 0, []), (138, .istore_n 2, 139, 0, 0, 0, 0, []), (139, .iinc 4 1, 142, 0, 0, 0, 1, []), (142, .goto (-109), 145, 33, 0, 0, 0, []), (145, .iload_n 1, 146, 0, 0, 0, 0, []), (146, .ireturn, 147, 0, 0, 0, 0, [])]
def tbX0_nextLine : Nat → pm_E := pm_lk ltX0_nextLine
theorem okX0_nextLine : ∀ pc, (tbX0_nextLine pc).1 = .nop ∨ pm_ok mX0_nextLine pw_Ms pc (tbX0_nextLine pc) := pm_lk_ok (by decide +kernel)
theorem nr_X0_nextLine : mX0_nextLine.2.2.2 = (some .int) := rfl
theorem tX0_nextLine_0 : tbX0_nextLine 0 = (.iconst (-1), 1, 0, 0, 0, -1, []) := rfl
theorem tX0_nextLine_1 : tbX0_nextLine 1 = (.istore_n 1, 2, 0, 0, 0, 0, []) := rfl
theorem tX0_nextLine_2 : tbX0_nextLine 2 = (.aload_n 0, 3, 0, 0, 0, 0, []) := rfl
theorem tX0_nextLine_3 : tbX0_nextLine 3 = (.invokevirtual 182, 6, 20, 0, 0, 0, []) := rfl
theorem tX0_nextLine_6 : tbX0_nextLine 6 = (.istore_n 2, 7, 0, 0, 0, 0, []) := rfl
theorem tX0_nextLine_7 : tbX0_nextLine 7 = (.iconst 0, 8, 0, 0, 0, 0, []) := rfl
theorem tX0_nextLine_8 : tbX0_nextLine 8 = (.istore_n 3, 9, 0, 0, 0, 0, []) := rfl
theorem tX0_nextLine_9 : tbX0_nextLine 9 = (.iload_n 3, 10, 0, 0, 0, 0, []) := rfl
theorem tX0_nextLine_10 : tbX0_nextLine 10 = (.bipush 6, 12, 0, 0, 0, 6, []) := rfl
theorem tX0_nextLine_12 : tbX0_nextLine 12 = (.if_icmp .ge 16, 15, 28, 0, 0, 0, []) := rfl
theorem tX0_nextLine_15 : tbX0_nextLine 15 = (.aload_n 0, 16, 0, 0, 0, 0, []) := rfl
theorem tX0_nextLine_16 : tbX0_nextLine 16 = (.getfield 35, 19, 0, 11, 0, 0, [(0, 0)]) := rfl
theorem tX0_nextLine_19 : tbX0_nextLine 19 = (.iload_n 3, 20, 0, 0, 0, 0, []) := rfl
theorem tX0_nextLine_20 : tbX0_nextLine 20 = (.iconst 0, 21, 0, 0, 0, 0, []) := rfl
theorem tX0_nextLine_21 : tbX0_nextLine 21 = (.iastore, 22, 0, 0, 0, 0, []) := rfl
theorem tX0_nextLine_22 : tbX0_nextLine 22 = (.iinc 3 1, 25, 0, 0, 0, 1, []) := rfl
theorem tX0_nextLine_25 : tbX0_nextLine 25 = (.goto (-16), 28, 9, 0, 0, 0, []) := rfl
theorem tX0_nextLine_28 : tbX0_nextLine 28 = (.iconst 0, 29, 0, 0, 0, 0, []) := rfl
theorem tX0_nextLine_29 : tbX0_nextLine 29 = (.istore_n 3, 30, 0, 0, 0, 0, []) := rfl
theorem tX0_nextLine_30 : tbX0_nextLine 30 = (.iconst 0, 31, 0, 0, 0, 0, []) := rfl
theorem tX0_nextLine_31 : tbX0_nextLine 31 = (.istore 4, 33, 0, 0, 0, 0, []) := rfl
theorem tX0_nextLine_33 : tbX0_nextLine 33 = (.iload 4, 35, 0, 0, 0, 0, []) := rfl
theorem tX0_nextLine_35 : tbX0_nextLine 35 = (.bipush 27, 37, 0, 0, 0, 27, []) := rfl
theorem tX0_nextLine_37 : tbX0_nextLine 37 = (.if_icmp .ge 108, 40, 145, 0, 0, 0, []) := rfl
theorem tX0_nextLine_40 : tbX0_nextLine 40 = (.aload_n 0, 41, 0, 0, 0, 0, []) := rfl
theorem tX0_nextLine_41 : tbX0_nextLine 41 = (.iload_n 3, 42, 0, 0, 0, 0, []) := rfl
theorem tX0_nextLine_42 : tbX0_nextLine 42 = (.invokevirtual 77, 45, 2, 1, 0, 0, []) := rfl
theorem tX0_nextLine_45 : tbX0_nextLine 45 = (.ifCond .eq 100, 48, 145, 0, 0, 0, []) := rfl
theorem tX0_nextLine_48 : tbX0_nextLine 48 = (.aload_n 0, 49, 0, 0, 0, 0, []) := rfl
theorem tX0_nextLine_49 : tbX0_nextLine 49 = (.getfield 11, 52, 0, 0, 0, 0, [(0, 0)]) := rfl
theorem tX0_nextLine_52 : tbX0_nextLine 52 = (.iload_n 3, 53, 0, 0, 0, 0, []) := rfl
theorem tX0_nextLine_53 : tbX0_nextLine 53 = (.aaload, 54, 0, 0, 0, 0, []) := rfl
theorem tX0_nextLine_54 : tbX0_nextLine 54 = (.getfield 88, 57, 4, 0, 0, 0, [(0, 0)]) := rfl
theorem tX0_nextLine_57 : tbX0_nextLine 57 = (.aload_n 0, 58, 0, 0, 0, 0, []) := rfl
theorem tX0_nextLine_58 : tbX0_nextLine 58 = (.getfield 35, 61, 0, 11, 0, 0, [(0, 0)]) := rfl
theorem tX0_nextLine_61 : tbX0_nextLine 61 = (.iload_n 3, 62, 0, 0, 0, 0, []) := rfl
theorem tX0_nextLine_62 : tbX0_nextLine 62 = (.iaload, 63, 0, 0, 0, 0, []) := rfl
theorem tX0_nextLine_63 : tbX0_nextLine 63 = (.invokevirtual 163, 66, 60, 1, 5, 0, []) := rfl
theorem tX0_nextLine_66 : tbX0_nextLine 66 = (.istore 5, 68, 0, 0, 0, 0, []) := rfl
theorem tX0_nextLine_68 : tbX0_nextLine 68 = (.aload_n 0, 69, 0, 0, 0, 0, []) := rfl
theorem tX0_nextLine_69 : tbX0_nextLine 69 = (.getfield 35, 72, 0, 11, 0, 0, [(0, 0)]) := rfl
theorem tX0_nextLine_72 : tbX0_nextLine 72 = (.iload_n 3, 73, 0, 0, 0, 0, []) := rfl
theorem tX0_nextLine_73 : tbX0_nextLine 73 = (.dup2, 74, 0, 0, 0, 0, []) := rfl
theorem tX0_nextLine_74 : tbX0_nextLine 74 = (.iaload, 75, 0, 0, 0, 0, []) := rfl
theorem tX0_nextLine_75 : tbX0_nextLine 75 = (.iconst 1, 76, 0, 0, 0, 1, []) := rfl
theorem tX0_nextLine_76 : tbX0_nextLine 76 = (.iadd, 77, 0, 0, 0, 0, []) := rfl
theorem tX0_nextLine_77 : tbX0_nextLine 77 = (.iastore, 78, 0, 0, 0, 0, []) := rfl
theorem tX0_nextLine_78 : tbX0_nextLine 78 = (.iload 5, 80, 0, 0, 0, 0, []) := rfl
theorem tX0_nextLine_80 : tbX0_nextLine 80 = (.iconst (-1), 81, 0, 0, 0, -1, []) := rfl
theorem tX0_nextLine_81 : tbX0_nextLine 81 = (.if_icmp .ne 16, 84, 97, 0, 0, 0, []) := rfl
theorem tX0_nextLine_84 : tbX0_nextLine 84 = (.aload_n 0, 85, 0, 0, 0, 0, []) := rfl
theorem tX0_nextLine_85 : tbX0_nextLine 85 = (.getfield 11, 88, 0, 0, 0, 0, [(0, 0)]) := rfl
theorem tX0_nextLine_88 : tbX0_nextLine 88 = (.iload_n 3, 89, 0, 0, 0, 0, []) := rfl
theorem tX0_nextLine_89 : tbX0_nextLine 89 = (.aaload, 90, 0, 0, 0, 0, []) := rfl
theorem tX0_nextLine_90 : tbX0_nextLine 90 = (.getfield 39, 93, 4, 1, 0, 0, []) := rfl
theorem tX0_nextLine_93 : tbX0_nextLine 93 = (.istore_n 3, 94, 0, 0, 0, 0, []) := rfl
theorem tX0_nextLine_94 : tbX0_nextLine 94 = (.goto 45, 97, 139, 0, 0, 0, []) := rfl
theorem tX0_nextLine_97 : tbX0_nextLine 97 = (.iload 5, 99, 0, 0, 0, 0, []) := rfl
theorem tX0_nextLine_99 : tbX0_nextLine 99 = (.bipush 100, 101, 0, 0, 0, 100, []) := rfl
theorem tX0_nextLine_101 : tbX0_nextLine 101 = (.if_icmp .lt 12, 104, 113, 0, 0, 0, []) := rfl
theorem tX0_nextLine_104 : tbX0_nextLine 104 = (.iload 5, 106, 0, 0, 0, 0, []) := rfl
theorem tX0_nextLine_106 : tbX0_nextLine 106 = (.bipush 100, 108, 0, 0, 0, 100, []) := rfl
theorem tX0_nextLine_108 : tbX0_nextLine 108 = (.isub, 109, 0, 0, 0, 0, []) := rfl
theorem tX0_nextLine_109 : tbX0_nextLine 109 = (.istore_n 3, 110, 0, 0, 0, 0, []) := rfl
theorem tX0_nextLine_110 : tbX0_nextLine 110 = (.goto 29, 113, 139, 0, 0, 0, []) := rfl
theorem tX0_nextLine_113 : tbX0_nextLine 113 = (.aload_n 0, 114, 0, 0, 0, 0, []) := rfl
theorem tX0_nextLine_114 : tbX0_nextLine 114 = (.iload 5, 116, 0, 0, 0, 0, []) := rfl
theorem tX0_nextLine_116 : tbX0_nextLine 116 = (.iload_n 2, 117, 0, 0, 0, 0, []) := rfl
theorem tX0_nextLine_117 : tbX0_nextLine 117 = (.invokevirtual 185, 120, 21, 2, 0, 0, []) := rfl
theorem tX0_nextLine_120 : tbX0_nextLine 120 = (.ifCond .eq 19, 123, 139, 0, 0, 0, []) := rfl
theorem tX0_nextLine_123 : tbX0_nextLine 123 = (.iload 5, 125, 0, 0, 0, 0, []) := rfl
theorem tX0_nextLine_125 : tbX0_nextLine 125 = (.istore_n 1, 126, 0, 0, 0, 0, []) := rfl
theorem tX0_nextLine_126 : tbX0_nextLine 126 = (.aload_n 0, 127, 0, 0, 0, 0, []) := rfl
theorem tX0_nextLine_127 : tbX0_nextLine 127 = (.getfield 20, 130, 0, 1, 0, 0, [(0, 0)]) := rfl
theorem tX0_nextLine_130 : tbX0_nextLine 130 = (.iload 5, 132, 0, 0, 0, 0, []) := rfl
theorem tX0_nextLine_132 : tbX0_nextLine 132 = (.aaload, 133, 0, 0, 0, 0, []) := rfl
theorem tX0_nextLine_133 : tbX0_nextLine 133 = (.getfield 101, 136, 3, 1, 0, 0, []) := rfl
theorem tX0_nextLine_136 : tbX0_nextLine 136 = (.iconst 1, 137, 0, 0, 0, 1, []) := rfl
theorem tX0_nextLine_137 : tbX0_nextLine 137 = (.iadd, 138, 0, 0, 0, 0, []) := rfl
theorem tX0_nextLine_138 : tbX0_nextLine 138 = (.istore_n 2, 139, 0, 0, 0, 0, []) := rfl
theorem tX0_nextLine_139 : tbX0_nextLine 139 = (.iinc 4 1, 142, 0, 0, 0, 1, []) := rfl
theorem tX0_nextLine_142 : tbX0_nextLine 142 = (.goto (-109), 145, 33, 0, 0, 0, []) := rfl
theorem tX0_nextLine_145 : tbX0_nextLine 145 = (.iload_n 1, 146, 0, 0, 0, 0, []) := rfl
theorem tX0_nextLine_146 : tbX0_nextLine 146 = (.ireturn, 147, 0, 0, 0, 0, []) := rfl
def ltX0_passOver : List (Nat × pm_E) := [(0, .aload_n 0, 1, 0, 0, 0, 0, []), (1, .iload_n 1, 2, 0, 0, 0, 0, []), (2, .invokevirtual 107, 5, 3, 1, 0, 0, []), (5, .ifCond .eq 18, 8, 23, 0, 0, 0, []), (8, .aload_n 0, 9, 0, 0, 0, 0, []), (9, .getfield 20, 12, 0, 1, 0, 0, [(0, 0)]), (12, .iload_n 1, 13, 0, 0, 0, 0, []), (13, .aaload, 14, 0, 0, 0, 0, []), (14, .iconst 0, 15, 0, 0, 0, 0, []), (15, .putfield 129, 18, 3, 3, 0, 0, [(0, 0)]), (18, .aload_n 0, 19, 0, 0, 0, 0, []), (19, .iload_n 1, 20, 0, 0, 0, 0, []), (20, .invokevirtual 159, 23, 17, 1, 0, 0, []), (23, .return_, 24, 0, 0, 0, 0, [])]
def tbX0_passOver : Nat → pm_E := pm_lk ltX0_passOver
theorem okX0_passOver : ∀ pc, (tbX0_passOver pc).1 = .nop ∨ pm_ok mX0_passOver pw_Ms pc (tbX0_passOver pc) := pm_lk_ok (by decide +kernel)
theorem nr_X0_passOver : mX0_passOver.2.2.2 = none := rfl
theorem tX0_passOver_0 : tbX0_passOver 0 = (.aload_n 0, 1, 0, 0, 0, 0, []) := rfl
theorem tX0_passOver_1 : tbX0_passOver 1 = (.iload_n 1, 2, 0, 0, 0, 0, []) := rfl
theorem tX0_passOver_2 : tbX0_passOver 2 = (.invokevirtual 107, 5, 3, 1, 0, 0, []) := rfl
theorem tX0_passOver_5 : tbX0_passOver 5 = (.ifCond .eq 18, 8, 23, 0, 0, 0, []) := rfl
theorem tX0_passOver_8 : tbX0_passOver 8 = (.aload_n 0, 9, 0, 0, 0, 0, []) := rfl
theorem tX0_passOver_9 : tbX0_passOver 9 = (.getfield 20, 12, 0, 1, 0, 0, [(0, 0)]) := rfl
theorem tX0_passOver_12 : tbX0_passOver 12 = (.iload_n 1, 13, 0, 0, 0, 0, []) := rfl
theorem tX0_passOver_13 : tbX0_passOver 13 = (.aaload, 14, 0, 0, 0, 0, []) := rfl
theorem tX0_passOver_14 : tbX0_passOver 14 = (.iconst 0, 15, 0, 0, 0, 0, []) := rfl
theorem tX0_passOver_15 : tbX0_passOver 15 = (.putfield 129, 18, 3, 3, 0, 0, [(0, 0)]) := rfl
theorem tX0_passOver_18 : tbX0_passOver 18 = (.aload_n 0, 19, 0, 0, 0, 0, []) := rfl
theorem tX0_passOver_19 : tbX0_passOver 19 = (.iload_n 1, 20, 0, 0, 0, 0, []) := rfl
theorem tX0_passOver_20 : tbX0_passOver 20 = (.invokevirtual 159, 23, 17, 1, 0, 0, []) := rfl
theorem tX0_passOver_23 : tbX0_passOver 23 = (.return_, 24, 0, 0, 0, 0, []) := rfl
def ltX0_lowestRank : List (Nat × pm_E) := [(0, .aload_n 0, 1, 0, 0, 0, 0, []), (1, .getfield 28, 4, 0, 9, 0, 0, [(0, 0)]), (4, .aload_n 0, 5, 0, 0, 0, 0, []), (5, .getfield 28, 8, 0, 9, 0, 0, [(0, 0)]), (8, .getfield 91, 11, 5, 1, 0, 0, []), (11, .iconst 1, 12, 0, 0, 0, 1, []), (12, .isub, 13, 0, 0, 0, 0, []), (13, .invokevirtual 163, 16, 60, 1, 5, 0, []), (16, .istore_n 1, 17, 0, 0, 0, 0, []), (17, .aload_n 0, 18, 0, 0, 0, 0, []), (18, .iload_n 1, 19, 0, 0, 0, 0, []), (19, .invokevirtual 107, 22, 3, 1, 0, 0, []), (22, .ifCond .eq 24, 25, 46, 0, 0, 0, []), (25, .aload_n 0, 26, 0, 0, 0, 0, []), (26, .getfield 68, 29, 0, 6, 0, 0, []), (29, .aload_n 0, 30, 0, 0, 0, 0, []), (30, .getfield 20, 33, 0, 1, 0, 0, [(0, 0)]), (33, .iload_n 1, 34, 0, 0, 0, 0, []), (34, .aaload, 35, 0, 0, 0, 0, []), (35, .getfield 101, 38, 3, 1, 0, 0, []), (38, .iconst 1, 39, 0, 0, 0, 1, []), (39, .iadd, 40, 0, 0, 0, 0, []), (40, .invokestatic 153, 43, 157, 2, 0, 0, []), (43, .goto 7, 46, 50, 0, 0, 0, []), (46, .aload_n 0, 47, 0, 0, 0, 0, []), (47, .getfield 68, 50, 0, 6, 0, 0, []), (50, .ireturn, 51, 0, 0, 0, 0, [])]
def tbX0_lowestRank : Nat → pm_E := pm_lk ltX0_lowestRank
theorem okX0_lowestRank : ∀ pc, (tbX0_lowestRank pc).1 = .nop ∨ pm_ok mX0_lowestRank pw_Ms pc (tbX0_lowestRank pc) := pm_lk_ok (by decide +kernel)
theorem nr_X0_lowestRank : mX0_lowestRank.2.2.2 = (some .int) := rfl
theorem tX0_lowestRank_0 : tbX0_lowestRank 0 = (.aload_n 0, 1, 0, 0, 0, 0, []) := rfl
theorem tX0_lowestRank_1 : tbX0_lowestRank 1 = (.getfield 28, 4, 0, 9, 0, 0, [(0, 0)]) := rfl
theorem tX0_lowestRank_4 : tbX0_lowestRank 4 = (.aload_n 0, 5, 0, 0, 0, 0, []) := rfl
theorem tX0_lowestRank_5 : tbX0_lowestRank 5 = (.getfield 28, 8, 0, 9, 0, 0, [(0, 0)]) := rfl
theorem tX0_lowestRank_8 : tbX0_lowestRank 8 = (.getfield 91, 11, 5, 1, 0, 0, []) := rfl
theorem tX0_lowestRank_11 : tbX0_lowestRank 11 = (.iconst 1, 12, 0, 0, 0, 1, []) := rfl
theorem tX0_lowestRank_12 : tbX0_lowestRank 12 = (.isub, 13, 0, 0, 0, 0, []) := rfl
theorem tX0_lowestRank_13 : tbX0_lowestRank 13 = (.invokevirtual 163, 16, 60, 1, 5, 0, []) := rfl
theorem tX0_lowestRank_16 : tbX0_lowestRank 16 = (.istore_n 1, 17, 0, 0, 0, 0, []) := rfl
theorem tX0_lowestRank_17 : tbX0_lowestRank 17 = (.aload_n 0, 18, 0, 0, 0, 0, []) := rfl
theorem tX0_lowestRank_18 : tbX0_lowestRank 18 = (.iload_n 1, 19, 0, 0, 0, 0, []) := rfl
theorem tX0_lowestRank_19 : tbX0_lowestRank 19 = (.invokevirtual 107, 22, 3, 1, 0, 0, []) := rfl
theorem tX0_lowestRank_22 : tbX0_lowestRank 22 = (.ifCond .eq 24, 25, 46, 0, 0, 0, []) := rfl
theorem tX0_lowestRank_25 : tbX0_lowestRank 25 = (.aload_n 0, 26, 0, 0, 0, 0, []) := rfl
theorem tX0_lowestRank_26 : tbX0_lowestRank 26 = (.getfield 68, 29, 0, 6, 0, 0, []) := rfl
theorem tX0_lowestRank_29 : tbX0_lowestRank 29 = (.aload_n 0, 30, 0, 0, 0, 0, []) := rfl
theorem tX0_lowestRank_30 : tbX0_lowestRank 30 = (.getfield 20, 33, 0, 1, 0, 0, [(0, 0)]) := rfl
theorem tX0_lowestRank_33 : tbX0_lowestRank 33 = (.iload_n 1, 34, 0, 0, 0, 0, []) := rfl
theorem tX0_lowestRank_34 : tbX0_lowestRank 34 = (.aaload, 35, 0, 0, 0, 0, []) := rfl
theorem tX0_lowestRank_35 : tbX0_lowestRank 35 = (.getfield 101, 38, 3, 1, 0, 0, []) := rfl
theorem tX0_lowestRank_38 : tbX0_lowestRank 38 = (.iconst 1, 39, 0, 0, 0, 1, []) := rfl
theorem tX0_lowestRank_39 : tbX0_lowestRank 39 = (.iadd, 40, 0, 0, 0, 0, []) := rfl
theorem tX0_lowestRank_40 : tbX0_lowestRank 40 = (.invokestatic 153, 43, 157, 2, 0, 0, []) := rfl
theorem tX0_lowestRank_43 : tbX0_lowestRank 43 = (.goto 7, 46, 50, 0, 0, 0, []) := rfl
theorem tX0_lowestRank_46 : tbX0_lowestRank 46 = (.aload_n 0, 47, 0, 0, 0, 0, []) := rfl
theorem tX0_lowestRank_47 : tbX0_lowestRank 47 = (.getfield 68, 50, 0, 6, 0, 0, []) := rfl
theorem tX0_lowestRank_50 : tbX0_lowestRank 50 = (.ireturn, 51, 0, 0, 0, 0, []) := rfl
def ltX0_isReady : List (Nat × pm_E) := [(0, .aload_n 0, 1, 0, 0, 0, 0, []), (1, .iload_n 1, 2, 0, 0, 0, 0, []), (2, .invokevirtual 107, 5, 3, 1, 0, 0, []), (5, .ifCond .ne 5, 8, 10, 0, 0, 0, []), (8, .iconst 0, 9, 0, 0, 0, 0, []), (9, .ireturn, 10, 0, 0, 0, 0, []), (10, .aload_n 0, 11, 0, 0, 0, 0, []), (11, .getfield 20, 14, 0, 1, 0, 0, [(0, 0)]), (14, .iload_n 1, 15, 0, 0, 0, 0, []), (15, .aaload, 16, 0, 0, 0, 0, []), (16, .astore_n 3, 17, 0, 0, 0, 0, []), (17, .aload_n 3, 18, 0, 0, 0, 0, []), (18, .getfield 129, 21, 3, 3, 0, 0, []), (21, .ifCond .eq 30, 24, 51, 0, 0, 0, []), (24, .aload_n 3, 25, 0, 0, 0, 0, []), (25, .getfield 144, 28, 3, 5, 0, 0, []), (28, .ifCond .ne 23, 31, 51, 0, 0, 0, []), (31, .aload_n 3, 32, 0, 0, 0, 0, []), (32, .getfield 101, 35, 3, 1, 0, 0, []), (35, .iload_n 2, 36, 0, 0, 0, 0, []), (36, .if_icmp .lt 15, 39, 51, 0, 0, 0, []), (39, .aload_n 0, 40, 0, 0, 0, 0, []), (40, .iload_n 1, 41, 0, 0, 0, 0, []), (41, .invokevirtual 189, 44, 22, 1, 0, 0, []), (44, .ifCond .ne 7, 47, 51, 0, 0, 0, []), (47, .iconst 1, 48, 0, 0, 0, 1, []), (48, .goto 4, 51, 52, 0, 0, 0, []), (51, .iconst 0, 52, 0, 0, 0, 0, []), (52, .ireturn, 53, 0, 0, 0, 0, [])]
def tbX0_isReady : Nat → pm_E := pm_lk ltX0_isReady
theorem okX0_isReady : ∀ pc, (tbX0_isReady pc).1 = .nop ∨ pm_ok mX0_isReady pw_Ms pc (tbX0_isReady pc) := pm_lk_ok (by decide +kernel)
theorem nr_X0_isReady : mX0_isReady.2.2.2 = (some .boolean) := rfl
theorem tX0_isReady_0 : tbX0_isReady 0 = (.aload_n 0, 1, 0, 0, 0, 0, []) := rfl
theorem tX0_isReady_1 : tbX0_isReady 1 = (.iload_n 1, 2, 0, 0, 0, 0, []) := rfl
theorem tX0_isReady_2 : tbX0_isReady 2 = (.invokevirtual 107, 5, 3, 1, 0, 0, []) := rfl
theorem tX0_isReady_5 : tbX0_isReady 5 = (.ifCond .ne 5, 8, 10, 0, 0, 0, []) := rfl
theorem tX0_isReady_8 : tbX0_isReady 8 = (.iconst 0, 9, 0, 0, 0, 0, []) := rfl
theorem tX0_isReady_9 : tbX0_isReady 9 = (.ireturn, 10, 0, 0, 0, 0, []) := rfl
theorem tX0_isReady_10 : tbX0_isReady 10 = (.aload_n 0, 11, 0, 0, 0, 0, []) := rfl
theorem tX0_isReady_11 : tbX0_isReady 11 = (.getfield 20, 14, 0, 1, 0, 0, [(0, 0)]) := rfl
theorem tX0_isReady_14 : tbX0_isReady 14 = (.iload_n 1, 15, 0, 0, 0, 0, []) := rfl
theorem tX0_isReady_15 : tbX0_isReady 15 = (.aaload, 16, 0, 0, 0, 0, []) := rfl
theorem tX0_isReady_16 : tbX0_isReady 16 = (.astore_n 3, 17, 0, 0, 0, 0, []) := rfl
theorem tX0_isReady_17 : tbX0_isReady 17 = (.aload_n 3, 18, 0, 0, 0, 0, []) := rfl
theorem tX0_isReady_18 : tbX0_isReady 18 = (.getfield 129, 21, 3, 3, 0, 0, []) := rfl
theorem tX0_isReady_21 : tbX0_isReady 21 = (.ifCond .eq 30, 24, 51, 0, 0, 0, []) := rfl
theorem tX0_isReady_24 : tbX0_isReady 24 = (.aload_n 3, 25, 0, 0, 0, 0, []) := rfl
theorem tX0_isReady_25 : tbX0_isReady 25 = (.getfield 144, 28, 3, 5, 0, 0, []) := rfl
theorem tX0_isReady_28 : tbX0_isReady 28 = (.ifCond .ne 23, 31, 51, 0, 0, 0, []) := rfl
theorem tX0_isReady_31 : tbX0_isReady 31 = (.aload_n 3, 32, 0, 0, 0, 0, []) := rfl
theorem tX0_isReady_32 : tbX0_isReady 32 = (.getfield 101, 35, 3, 1, 0, 0, []) := rfl
theorem tX0_isReady_35 : tbX0_isReady 35 = (.iload_n 2, 36, 0, 0, 0, 0, []) := rfl
theorem tX0_isReady_36 : tbX0_isReady 36 = (.if_icmp .lt 15, 39, 51, 0, 0, 0, []) := rfl
theorem tX0_isReady_39 : tbX0_isReady 39 = (.aload_n 0, 40, 0, 0, 0, 0, []) := rfl
theorem tX0_isReady_40 : tbX0_isReady 40 = (.iload_n 1, 41, 0, 0, 0, 0, []) := rfl
theorem tX0_isReady_41 : tbX0_isReady 41 = (.invokevirtual 189, 44, 22, 1, 0, 0, []) := rfl
theorem tX0_isReady_44 : tbX0_isReady 44 = (.ifCond .ne 7, 47, 51, 0, 0, 0, []) := rfl
theorem tX0_isReady_47 : tbX0_isReady 47 = (.iconst 1, 48, 0, 0, 0, 1, []) := rfl
theorem tX0_isReady_48 : tbX0_isReady 48 = (.goto 4, 51, 52, 0, 0, 0, []) := rfl
theorem tX0_isReady_51 : tbX0_isReady 51 = (.iconst 0, 52, 0, 0, 0, 0, []) := rfl
theorem tX0_isReady_52 : tbX0_isReady 52 = (.ireturn, 53, 0, 0, 0, 0, []) := rfl
def ltX0_isMasked : List (Nat × pm_E) := [(0, .aload_n 0, 1, 0, 0, 0, 0, []), (1, .getfield 20, 4, 0, 1, 0, 0, [(0, 0)]), (4, .iload_n 1, 5, 0, 0, 0, 0, []), (5, .aaload, 6, 0, 0, 0, 0, []), (6, .astore_n 2, 7, 0, 0, 0, 0, []), (7, .aload_n 2, 8, 0, 0, 0, 0, []), (8, .getfield 110, 11, 3, 4, 0, 0, []), (11, .ifCond .ne 23, 14, 34, 0, 0, 0, []), (14, .aload_n 0, 15, 0, 0, 0, 0, []), (15, .getfield 11, 18, 0, 0, 0, 0, [(0, 0)]), (18, .aload_n 2, 19, 0, 0, 0, 0, []), (19, .getfield 98, 22, 3, 0, 0, 0, []), (22, .aaload, 23, 0, 0, 0, 0, []), (23, .getfield 43, 26, 4, 3, 0, 0, []), (26, .aload_n 0, 27, 0, 0, 0, 0, []), (27, .getfield 62, 30, 0, 4, 0, 0, []), (30, .iand, 31, 0, 0, 0, 0, []), (31, .ifCond .eq 7, 34, 38, 0, 0, 0, []), (34, .iconst 1, 35, 0, 0, 0, 1, []), (35, .goto 4, 38, 39, 0, 0, 0, []), (38, .iconst 0, 39, 0, 0, 0, 0, []), (39, .ireturn, 40, 0, 0, 0, 0, [])]
def tbX0_isMasked : Nat → pm_E := pm_lk ltX0_isMasked
theorem okX0_isMasked : ∀ pc, (tbX0_isMasked pc).1 = .nop ∨ pm_ok mX0_isMasked pw_Ms pc (tbX0_isMasked pc) := pm_lk_ok (by decide +kernel)
theorem nr_X0_isMasked : mX0_isMasked.2.2.2 = (some .boolean) := rfl
theorem tX0_isMasked_0 : tbX0_isMasked 0 = (.aload_n 0, 1, 0, 0, 0, 0, []) := rfl
theorem tX0_isMasked_1 : tbX0_isMasked 1 = (.getfield 20, 4, 0, 1, 0, 0, [(0, 0)]) := rfl
theorem tX0_isMasked_4 : tbX0_isMasked 4 = (.iload_n 1, 5, 0, 0, 0, 0, []) := rfl
theorem tX0_isMasked_5 : tbX0_isMasked 5 = (.aaload, 6, 0, 0, 0, 0, []) := rfl
theorem tX0_isMasked_6 : tbX0_isMasked 6 = (.astore_n 2, 7, 0, 0, 0, 0, []) := rfl
theorem tX0_isMasked_7 : tbX0_isMasked 7 = (.aload_n 2, 8, 0, 0, 0, 0, []) := rfl
theorem tX0_isMasked_8 : tbX0_isMasked 8 = (.getfield 110, 11, 3, 4, 0, 0, []) := rfl
theorem tX0_isMasked_11 : tbX0_isMasked 11 = (.ifCond .ne 23, 14, 34, 0, 0, 0, []) := rfl
theorem tX0_isMasked_14 : tbX0_isMasked 14 = (.aload_n 0, 15, 0, 0, 0, 0, []) := rfl
theorem tX0_isMasked_15 : tbX0_isMasked 15 = (.getfield 11, 18, 0, 0, 0, 0, [(0, 0)]) := rfl
theorem tX0_isMasked_18 : tbX0_isMasked 18 = (.aload_n 2, 19, 0, 0, 0, 0, []) := rfl
theorem tX0_isMasked_19 : tbX0_isMasked 19 = (.getfield 98, 22, 3, 0, 0, 0, []) := rfl
theorem tX0_isMasked_22 : tbX0_isMasked 22 = (.aaload, 23, 0, 0, 0, 0, []) := rfl
theorem tX0_isMasked_23 : tbX0_isMasked 23 = (.getfield 43, 26, 4, 3, 0, 0, []) := rfl
theorem tX0_isMasked_26 : tbX0_isMasked 26 = (.aload_n 0, 27, 0, 0, 0, 0, []) := rfl
theorem tX0_isMasked_27 : tbX0_isMasked 27 = (.getfield 62, 30, 0, 4, 0, 0, []) := rfl
theorem tX0_isMasked_30 : tbX0_isMasked 30 = (.iand, 31, 0, 0, 0, 0, []) := rfl
theorem tX0_isMasked_31 : tbX0_isMasked 31 = (.ifCond .eq 7, 34, 38, 0, 0, 0, []) := rfl
theorem tX0_isMasked_34 : tbX0_isMasked 34 = (.iconst 1, 35, 0, 0, 0, 1, []) := rfl
theorem tX0_isMasked_35 : tbX0_isMasked 35 = (.goto 4, 38, 39, 0, 0, 0, []) := rfl
theorem tX0_isMasked_38 : tbX0_isMasked 38 = (.iconst 0, 39, 0, 0, 0, 0, []) := rfl
theorem tX0_isMasked_39 : tbX0_isMasked 39 = (.ireturn, 40, 0, 0, 0, 0, []) := rfl
def ltX0_litSet : List (Nat × pm_E) := [(0, .iconst 0, 1, 0, 0, 0, 0, []), (1, .istore_n 1, 2, 0, 0, 0, 0, []), (2, .iconst 0, 3, 0, 0, 0, 0, []), (3, .istore_n 2, 4, 0, 0, 0, 0, []), (4, .iload_n 2, 5, 0, 0, 0, 0, []), (5, .aload_n 0, 6, 0, 0, 0, 0, []), (6, .getfield 59, 9, 0, 3, 0, 0, []), (9, .if_icmp .ge 26, 12, 35, 0, 0, 0, []), (12, .iload_n 1, 13, 0, 0, 0, 0, []), (13, .aload_n 0, 14, 0, 0, 0, 0, []), (14, .getfield 20, 17, 0, 1, 0, 0, [(0, 0)]), (17, .iload_n 2, 18, 0, 0, 0, 0, []), (18, .aaload, 19, 0, 0, 0, 0, []), (19, .getfield 129, 22, 3, 3, 0, 0, []), (22, .invokestatic 192, 25, 92, 1, 0, 0, []), (25, .iload_n 2, 26, 0, 0, 0, 0, []), (26, .ishl, 27, 0, 0, 0, 0, []), (27, .ior, 28, 0, 0, 0, 0, []), (28, .istore_n 1, 29, 0, 0, 0, 0, []), (29, .iinc 2 1, 32, 0, 0, 0, 1, []), (32, .goto (-28), 35, 4, 0, 0, 0, []), (35, .iload_n 1, 36, 0, 0, 0, 0, []), (36, .ireturn, 37, 0, 0, 0, 0, [])]
def tbX0_litSet : Nat → pm_E := pm_lk ltX0_litSet
theorem okX0_litSet : ∀ pc, (tbX0_litSet pc).1 = .nop ∨ pm_ok mX0_litSet pw_Ms pc (tbX0_litSet pc) := pm_lk_ok (by decide +kernel)
theorem nr_X0_litSet : mX0_litSet.2.2.2 = (some .int) := rfl
theorem tX0_litSet_0 : tbX0_litSet 0 = (.iconst 0, 1, 0, 0, 0, 0, []) := rfl
theorem tX0_litSet_1 : tbX0_litSet 1 = (.istore_n 1, 2, 0, 0, 0, 0, []) := rfl
theorem tX0_litSet_2 : tbX0_litSet 2 = (.iconst 0, 3, 0, 0, 0, 0, []) := rfl
theorem tX0_litSet_3 : tbX0_litSet 3 = (.istore_n 2, 4, 0, 0, 0, 0, []) := rfl
theorem tX0_litSet_4 : tbX0_litSet 4 = (.iload_n 2, 5, 0, 0, 0, 0, []) := rfl
theorem tX0_litSet_5 : tbX0_litSet 5 = (.aload_n 0, 6, 0, 0, 0, 0, []) := rfl
theorem tX0_litSet_6 : tbX0_litSet 6 = (.getfield 59, 9, 0, 3, 0, 0, []) := rfl
theorem tX0_litSet_9 : tbX0_litSet 9 = (.if_icmp .ge 26, 12, 35, 0, 0, 0, []) := rfl
theorem tX0_litSet_12 : tbX0_litSet 12 = (.iload_n 1, 13, 0, 0, 0, 0, []) := rfl
theorem tX0_litSet_13 : tbX0_litSet 13 = (.aload_n 0, 14, 0, 0, 0, 0, []) := rfl
theorem tX0_litSet_14 : tbX0_litSet 14 = (.getfield 20, 17, 0, 1, 0, 0, [(0, 0)]) := rfl
theorem tX0_litSet_17 : tbX0_litSet 17 = (.iload_n 2, 18, 0, 0, 0, 0, []) := rfl
theorem tX0_litSet_18 : tbX0_litSet 18 = (.aaload, 19, 0, 0, 0, 0, []) := rfl
theorem tX0_litSet_19 : tbX0_litSet 19 = (.getfield 129, 22, 3, 3, 0, 0, []) := rfl
theorem tX0_litSet_22 : tbX0_litSet 22 = (.invokestatic 192, 25, 92, 1, 0, 0, []) := rfl
theorem tX0_litSet_25 : tbX0_litSet 25 = (.iload_n 2, 26, 0, 0, 0, 0, []) := rfl
theorem tX0_litSet_26 : tbX0_litSet 26 = (.ishl, 27, 0, 0, 0, 0, []) := rfl
theorem tX0_litSet_27 : tbX0_litSet 27 = (.ior, 28, 0, 0, 0, 0, []) := rfl
theorem tX0_litSet_28 : tbX0_litSet 28 = (.istore_n 1, 29, 0, 0, 0, 0, []) := rfl
theorem tX0_litSet_29 : tbX0_litSet 29 = (.iinc 2 1, 32, 0, 0, 0, 1, []) := rfl
theorem tX0_litSet_32 : tbX0_litSet 32 = (.goto (-28), 35, 4, 0, 0, 0, []) := rfl
theorem tX0_litSet_35 : tbX0_litSet 35 = (.iload_n 1, 36, 0, 0, 0, 0, []) := rfl
theorem tX0_litSet_36 : tbX0_litSet 36 = (.ireturn, 37, 0, 0, 0, 0, []) := rfl
def ltX0_readySet : List (Nat × pm_E) := [(0, .aload_n 0, 1, 0, 0, 0, 0, []), (1, .invokevirtual 182, 4, 20, 0, 0, 0, []), (4, .istore_n 1, 5, 0, 0, 0, 0, []), (5, .iconst 0, 6, 0, 0, 0, 0, []), (6, .istore_n 2, 7, 0, 0, 0, 0, []), (7, .iconst 0, 8, 0, 0, 0, 0, []), (8, .istore_n 3, 9, 0, 0, 0, 0, []), (9, .iload_n 3, 10, 0, 0, 0, 0, []), (10, .aload_n 0, 11, 0, 0, 0, 0, []), (11, .getfield 59, 14, 0, 3, 0, 0, []), (14, .if_icmp .ge 23, 17, 37, 0, 0, 0, []), (17, .iload_n 2, 18, 0, 0, 0, 0, []), (18, .aload_n 0, 19, 0, 0, 0, 0, []), (19, .iload_n 3, 20, 0, 0, 0, 0, []), (20, .iload_n 1, 21, 0, 0, 0, 0, []), (21, .invokevirtual 185, 24, 21, 2, 0, 0, []), (24, .invokestatic 192, 27, 92, 1, 0, 0, []), (27, .iload_n 3, 28, 0, 0, 0, 0, []), (28, .ishl, 29, 0, 0, 0, 0, []), (29, .ior, 30, 0, 0, 0, 0, []), (30, .istore_n 2, 31, 0, 0, 0, 0, []), (31, .iinc 3 1, 34, 0, 0, 0, 1, []), (34, .goto (-25), 37, 9, 0, 0, 0, []), (37, .iload_n 2, 38, 0, 0, 0, 0, []), (38, .ireturn, 39, 0, 0, 0, 0, [])]
def tbX0_readySet : Nat → pm_E := pm_lk ltX0_readySet
theorem okX0_readySet : ∀ pc, (tbX0_readySet pc).1 = .nop ∨ pm_ok mX0_readySet pw_Ms pc (tbX0_readySet pc) := pm_lk_ok (by decide +kernel)
theorem nr_X0_readySet : mX0_readySet.2.2.2 = (some .int) := rfl
theorem tX0_readySet_0 : tbX0_readySet 0 = (.aload_n 0, 1, 0, 0, 0, 0, []) := rfl
theorem tX0_readySet_1 : tbX0_readySet 1 = (.invokevirtual 182, 4, 20, 0, 0, 0, []) := rfl
theorem tX0_readySet_4 : tbX0_readySet 4 = (.istore_n 1, 5, 0, 0, 0, 0, []) := rfl
theorem tX0_readySet_5 : tbX0_readySet 5 = (.iconst 0, 6, 0, 0, 0, 0, []) := rfl
theorem tX0_readySet_6 : tbX0_readySet 6 = (.istore_n 2, 7, 0, 0, 0, 0, []) := rfl
theorem tX0_readySet_7 : tbX0_readySet 7 = (.iconst 0, 8, 0, 0, 0, 0, []) := rfl
theorem tX0_readySet_8 : tbX0_readySet 8 = (.istore_n 3, 9, 0, 0, 0, 0, []) := rfl
theorem tX0_readySet_9 : tbX0_readySet 9 = (.iload_n 3, 10, 0, 0, 0, 0, []) := rfl
theorem tX0_readySet_10 : tbX0_readySet 10 = (.aload_n 0, 11, 0, 0, 0, 0, []) := rfl
theorem tX0_readySet_11 : tbX0_readySet 11 = (.getfield 59, 14, 0, 3, 0, 0, []) := rfl
theorem tX0_readySet_14 : tbX0_readySet 14 = (.if_icmp .ge 23, 17, 37, 0, 0, 0, []) := rfl
theorem tX0_readySet_17 : tbX0_readySet 17 = (.iload_n 2, 18, 0, 0, 0, 0, []) := rfl
theorem tX0_readySet_18 : tbX0_readySet 18 = (.aload_n 0, 19, 0, 0, 0, 0, []) := rfl
theorem tX0_readySet_19 : tbX0_readySet 19 = (.iload_n 3, 20, 0, 0, 0, 0, []) := rfl
theorem tX0_readySet_20 : tbX0_readySet 20 = (.iload_n 1, 21, 0, 0, 0, 0, []) := rfl
theorem tX0_readySet_21 : tbX0_readySet 21 = (.invokevirtual 185, 24, 21, 2, 0, 0, []) := rfl
theorem tX0_readySet_24 : tbX0_readySet 24 = (.invokestatic 192, 27, 92, 1, 0, 0, []) := rfl
theorem tX0_readySet_27 : tbX0_readySet 27 = (.iload_n 3, 28, 0, 0, 0, 0, []) := rfl
theorem tX0_readySet_28 : tbX0_readySet 28 = (.ishl, 29, 0, 0, 0, 0, []) := rfl
theorem tX0_readySet_29 : tbX0_readySet 29 = (.ior, 30, 0, 0, 0, 0, []) := rfl
theorem tX0_readySet_30 : tbX0_readySet 30 = (.istore_n 2, 31, 0, 0, 0, 0, []) := rfl
theorem tX0_readySet_31 : tbX0_readySet 31 = (.iinc 3 1, 34, 0, 0, 0, 1, []) := rfl
theorem tX0_readySet_34 : tbX0_readySet 34 = (.goto (-25), 37, 9, 0, 0, 0, []) := rfl
theorem tX0_readySet_37 : tbX0_readySet 37 = (.iload_n 2, 38, 0, 0, 0, 0, []) := rfl
theorem tX0_readySet_38 : tbX0_readySet 38 = (.ireturn, 39, 0, 0, 0, 0, []) := rfl
def ltX0_stageSet : List (Nat × pm_E) := [(0, .iconst 0, 1, 0, 0, 0, 0, []), (1, .istore_n 2, 2, 0, 0, 0, 0, []), (2, .iconst 0, 3, 0, 0, 0, 0, []), (3, .istore_n 3, 4, 0, 0, 0, 0, []), (4, .iload_n 3, 5, 0, 0, 0, 0, []), (5, .aload_n 0, 6, 0, 0, 0, 0, []), (6, .getfield 59, 9, 0, 3, 0, 0, []), (9, .if_icmp .ge 35, 12, 44, 0, 0, 0, []), (12, .iload_n 2, 13, 0, 0, 0, 0, []), (13, .aload_n 0, 14, 0, 0, 0, 0, []), (14, .getfield 20, 17, 0, 1, 0, 0, [(0, 0)]), (17, .iload_n 3, 18, 0, 0, 0, 0, []), (18, .aaload, 19, 0, 0, 0, 0, []), (19, .getfield 144, 22, 3, 5, 0, 0, []), (22, .iload_n 1, 23, 0, 0, 0, 0, []), (23, .if_icmp .ne 7, 26, 30, 0, 0, 0, []), (26, .iconst 1, 27, 0, 0, 0, 1, []), (27, .goto 4, 30, 31, 0, 0, 0, []), (30, .iconst 0, 31, 0, 0, 0, 0, []), (31, .invokestatic 192, 34, 92, 1, 0, 0, []), (34, .iload_n 3, 35, 0, 0, 0, 0, []), (35, .ishl, 36, 0, 0, 0, 0, []), (36, .ior, 37, 0, 0, 0, 0, []), (37, .istore_n 2, 38, 0, 0, 0, 0, []), (38, .iinc 3 1, 41, 0, 0, 0, 1, []), (41, .goto (-37), 44, 4, 0, 0, 0, []), (44, .iload_n 2, 45, 0, 0, 0, 0, []), (45, .ireturn, 46, 0, 0, 0, 0, [])]
def tbX0_stageSet : Nat → pm_E := pm_lk ltX0_stageSet
theorem okX0_stageSet : ∀ pc, (tbX0_stageSet pc).1 = .nop ∨ pm_ok mX0_stageSet pw_Ms pc (tbX0_stageSet pc) := pm_lk_ok (by decide +kernel)
theorem nr_X0_stageSet : mX0_stageSet.2.2.2 = (some .int) := rfl
theorem tX0_stageSet_0 : tbX0_stageSet 0 = (.iconst 0, 1, 0, 0, 0, 0, []) := rfl
theorem tX0_stageSet_1 : tbX0_stageSet 1 = (.istore_n 2, 2, 0, 0, 0, 0, []) := rfl
theorem tX0_stageSet_2 : tbX0_stageSet 2 = (.iconst 0, 3, 0, 0, 0, 0, []) := rfl
theorem tX0_stageSet_3 : tbX0_stageSet 3 = (.istore_n 3, 4, 0, 0, 0, 0, []) := rfl
theorem tX0_stageSet_4 : tbX0_stageSet 4 = (.iload_n 3, 5, 0, 0, 0, 0, []) := rfl
theorem tX0_stageSet_5 : tbX0_stageSet 5 = (.aload_n 0, 6, 0, 0, 0, 0, []) := rfl
theorem tX0_stageSet_6 : tbX0_stageSet 6 = (.getfield 59, 9, 0, 3, 0, 0, []) := rfl
theorem tX0_stageSet_9 : tbX0_stageSet 9 = (.if_icmp .ge 35, 12, 44, 0, 0, 0, []) := rfl
theorem tX0_stageSet_12 : tbX0_stageSet 12 = (.iload_n 2, 13, 0, 0, 0, 0, []) := rfl
theorem tX0_stageSet_13 : tbX0_stageSet 13 = (.aload_n 0, 14, 0, 0, 0, 0, []) := rfl
theorem tX0_stageSet_14 : tbX0_stageSet 14 = (.getfield 20, 17, 0, 1, 0, 0, [(0, 0)]) := rfl
theorem tX0_stageSet_17 : tbX0_stageSet 17 = (.iload_n 3, 18, 0, 0, 0, 0, []) := rfl
theorem tX0_stageSet_18 : tbX0_stageSet 18 = (.aaload, 19, 0, 0, 0, 0, []) := rfl
theorem tX0_stageSet_19 : tbX0_stageSet 19 = (.getfield 144, 22, 3, 5, 0, 0, []) := rfl
theorem tX0_stageSet_22 : tbX0_stageSet 22 = (.iload_n 1, 23, 0, 0, 0, 0, []) := rfl
theorem tX0_stageSet_23 : tbX0_stageSet 23 = (.if_icmp .ne 7, 26, 30, 0, 0, 0, []) := rfl
theorem tX0_stageSet_26 : tbX0_stageSet 26 = (.iconst 1, 27, 0, 0, 0, 1, []) := rfl
theorem tX0_stageSet_27 : tbX0_stageSet 27 = (.goto 4, 30, 31, 0, 0, 0, []) := rfl
theorem tX0_stageSet_30 : tbX0_stageSet 30 = (.iconst 0, 31, 0, 0, 0, 0, []) := rfl
theorem tX0_stageSet_31 : tbX0_stageSet 31 = (.invokestatic 192, 34, 92, 1, 0, 0, []) := rfl
theorem tX0_stageSet_34 : tbX0_stageSet 34 = (.iload_n 3, 35, 0, 0, 0, 0, []) := rfl
theorem tX0_stageSet_35 : tbX0_stageSet 35 = (.ishl, 36, 0, 0, 0, 0, []) := rfl
theorem tX0_stageSet_36 : tbX0_stageSet 36 = (.ior, 37, 0, 0, 0, 0, []) := rfl
theorem tX0_stageSet_37 : tbX0_stageSet 37 = (.istore_n 2, 38, 0, 0, 0, 0, []) := rfl
theorem tX0_stageSet_38 : tbX0_stageSet 38 = (.iinc 3 1, 41, 0, 0, 0, 1, []) := rfl
theorem tX0_stageSet_41 : tbX0_stageSet 41 = (.goto (-37), 44, 4, 0, 0, 0, []) := rfl
theorem tX0_stageSet_44 : tbX0_stageSet 44 = (.iload_n 2, 45, 0, 0, 0, 0, []) := rfl
theorem tX0_stageSet_45 : tbX0_stageSet 45 = (.ireturn, 46, 0, 0, 0, 0, []) := rfl
def ltX0_ownMaskSet : List (Nat × pm_E) := [(0, .iconst 0, 1, 0, 0, 0, 0, []), (1, .istore_n 1, 2, 0, 0, 0, 0, []), (2, .iconst 0, 3, 0, 0, 0, 0, []), (3, .istore_n 2, 4, 0, 0, 0, 0, []), (4, .iload_n 2, 5, 0, 0, 0, 0, []), (5, .aload_n 0, 6, 0, 0, 0, 0, []), (6, .getfield 59, 9, 0, 3, 0, 0, []), (9, .if_icmp .ge 26, 12, 35, 0, 0, 0, []), (12, .iload_n 1, 13, 0, 0, 0, 0, []), (13, .aload_n 0, 14, 0, 0, 0, 0, []), (14, .getfield 20, 17, 0, 1, 0, 0, [(0, 0)]), (17, .iload_n 2, 18, 0, 0, 0, 0, []), (18, .aaload, 19, 0, 0, 0, 0, []), (19, .getfield 110, 22, 3, 4, 0, 0, []), (22, .invokestatic 192, 25, 92, 1, 0, 0, []), (25, .iload_n 2, 26, 0, 0, 0, 0, []), (26, .ishl, 27, 0, 0, 0, 0, []), (27, .ior, 28, 0, 0, 0, 0, []), (28, .istore_n 1, 29, 0, 0, 0, 0, []), (29, .iinc 2 1, 32, 0, 0, 0, 1, []), (32, .goto (-28), 35, 4, 0, 0, 0, []), (35, .iload_n 1, 36, 0, 0, 0, 0, []), (36, .ireturn, 37, 0, 0, 0, 0, [])]
def tbX0_ownMaskSet : Nat → pm_E := pm_lk ltX0_ownMaskSet
theorem okX0_ownMaskSet : ∀ pc, (tbX0_ownMaskSet pc).1 = .nop ∨ pm_ok mX0_ownMaskSet pw_Ms pc (tbX0_ownMaskSet pc) := pm_lk_ok (by decide +kernel)
theorem nr_X0_ownMaskSet : mX0_ownMaskSet.2.2.2 = (some .int) := rfl
theorem tX0_ownMaskSet_0 : tbX0_ownMaskSet 0 = (.iconst 0, 1, 0, 0, 0, 0, []) := rfl
theorem tX0_ownMaskSet_1 : tbX0_ownMaskSet 1 = (.istore_n 1, 2, 0, 0, 0, 0, []) := rfl
theorem tX0_ownMaskSet_2 : tbX0_ownMaskSet 2 = (.iconst 0, 3, 0, 0, 0, 0, []) := rfl
theorem tX0_ownMaskSet_3 : tbX0_ownMaskSet 3 = (.istore_n 2, 4, 0, 0, 0, 0, []) := rfl
theorem tX0_ownMaskSet_4 : tbX0_ownMaskSet 4 = (.iload_n 2, 5, 0, 0, 0, 0, []) := rfl
theorem tX0_ownMaskSet_5 : tbX0_ownMaskSet 5 = (.aload_n 0, 6, 0, 0, 0, 0, []) := rfl
theorem tX0_ownMaskSet_6 : tbX0_ownMaskSet 6 = (.getfield 59, 9, 0, 3, 0, 0, []) := rfl
theorem tX0_ownMaskSet_9 : tbX0_ownMaskSet 9 = (.if_icmp .ge 26, 12, 35, 0, 0, 0, []) := rfl
theorem tX0_ownMaskSet_12 : tbX0_ownMaskSet 12 = (.iload_n 1, 13, 0, 0, 0, 0, []) := rfl
theorem tX0_ownMaskSet_13 : tbX0_ownMaskSet 13 = (.aload_n 0, 14, 0, 0, 0, 0, []) := rfl
theorem tX0_ownMaskSet_14 : tbX0_ownMaskSet 14 = (.getfield 20, 17, 0, 1, 0, 0, [(0, 0)]) := rfl
theorem tX0_ownMaskSet_17 : tbX0_ownMaskSet 17 = (.iload_n 2, 18, 0, 0, 0, 0, []) := rfl
theorem tX0_ownMaskSet_18 : tbX0_ownMaskSet 18 = (.aaload, 19, 0, 0, 0, 0, []) := rfl
theorem tX0_ownMaskSet_19 : tbX0_ownMaskSet 19 = (.getfield 110, 22, 3, 4, 0, 0, []) := rfl
theorem tX0_ownMaskSet_22 : tbX0_ownMaskSet 22 = (.invokestatic 192, 25, 92, 1, 0, 0, []) := rfl
theorem tX0_ownMaskSet_25 : tbX0_ownMaskSet 25 = (.iload_n 2, 26, 0, 0, 0, 0, []) := rfl
theorem tX0_ownMaskSet_26 : tbX0_ownMaskSet 26 = (.ishl, 27, 0, 0, 0, 0, []) := rfl
theorem tX0_ownMaskSet_27 : tbX0_ownMaskSet 27 = (.ior, 28, 0, 0, 0, 0, []) := rfl
theorem tX0_ownMaskSet_28 : tbX0_ownMaskSet 28 = (.istore_n 1, 29, 0, 0, 0, 0, []) := rfl
theorem tX0_ownMaskSet_29 : tbX0_ownMaskSet 29 = (.iinc 2 1, 32, 0, 0, 0, 1, []) := rfl
theorem tX0_ownMaskSet_32 : tbX0_ownMaskSet 32 = (.goto (-28), 35, 4, 0, 0, 0, []) := rfl
theorem tX0_ownMaskSet_35 : tbX0_ownMaskSet 35 = (.iload_n 1, 36, 0, 0, 0, 0, []) := rfl
theorem tX0_ownMaskSet_36 : tbX0_ownMaskSet 36 = (.ireturn, 37, 0, 0, 0, 0, []) := rfl
def ltX0_anyMaskSet : List (Nat × pm_E) := [(0, .iconst 0, 1, 0, 0, 0, 0, []), (1, .istore_n 1, 2, 0, 0, 0, 0, []), (2, .iconst 0, 3, 0, 0, 0, 0, []), (3, .istore_n 2, 4, 0, 0, 0, 0, []), (4, .iload_n 2, 5, 0, 0, 0, 0, []), (5, .aload_n 0, 6, 0, 0, 0, 0, []), (6, .getfield 59, 9, 0, 3, 0, 0, []), (9, .if_icmp .ge 22, 12, 31, 0, 0, 0, []), (12, .iload_n 1, 13, 0, 0, 0, 0, []), (13, .aload_n 0, 14, 0, 0, 0, 0, []), (14, .iload_n 2, 15, 0, 0, 0, 0, []), (15, .invokevirtual 189, 18, 22, 1, 0, 0, []), (18, .invokestatic 192, 21, 92, 1, 0, 0, []), (21, .iload_n 2, 22, 0, 0, 0, 0, []), (22, .ishl, 23, 0, 0, 0, 0, []), (23, .ior, 24, 0, 0, 0, 0, []), (24, .istore_n 1, 25, 0, 0, 0, 0, []), (25, .iinc 2 1, 28, 0, 0, 0, 1, []), (28, .goto (-24), 31, 4, 0, 0, 0, []), (31, .iload_n 1, 32, 0, 0, 0, 0, []), (32, .ireturn, 33, 0, 0, 0, 0, [])]
def tbX0_anyMaskSet : Nat → pm_E := pm_lk ltX0_anyMaskSet
theorem okX0_anyMaskSet : ∀ pc, (tbX0_anyMaskSet pc).1 = .nop ∨ pm_ok mX0_anyMaskSet pw_Ms pc (tbX0_anyMaskSet pc) := pm_lk_ok (by decide +kernel)
theorem nr_X0_anyMaskSet : mX0_anyMaskSet.2.2.2 = (some .int) := rfl
theorem tX0_anyMaskSet_0 : tbX0_anyMaskSet 0 = (.iconst 0, 1, 0, 0, 0, 0, []) := rfl
theorem tX0_anyMaskSet_1 : tbX0_anyMaskSet 1 = (.istore_n 1, 2, 0, 0, 0, 0, []) := rfl
theorem tX0_anyMaskSet_2 : tbX0_anyMaskSet 2 = (.iconst 0, 3, 0, 0, 0, 0, []) := rfl
theorem tX0_anyMaskSet_3 : tbX0_anyMaskSet 3 = (.istore_n 2, 4, 0, 0, 0, 0, []) := rfl
theorem tX0_anyMaskSet_4 : tbX0_anyMaskSet 4 = (.iload_n 2, 5, 0, 0, 0, 0, []) := rfl
theorem tX0_anyMaskSet_5 : tbX0_anyMaskSet 5 = (.aload_n 0, 6, 0, 0, 0, 0, []) := rfl
theorem tX0_anyMaskSet_6 : tbX0_anyMaskSet 6 = (.getfield 59, 9, 0, 3, 0, 0, []) := rfl
theorem tX0_anyMaskSet_9 : tbX0_anyMaskSet 9 = (.if_icmp .ge 22, 12, 31, 0, 0, 0, []) := rfl
theorem tX0_anyMaskSet_12 : tbX0_anyMaskSet 12 = (.iload_n 1, 13, 0, 0, 0, 0, []) := rfl
theorem tX0_anyMaskSet_13 : tbX0_anyMaskSet 13 = (.aload_n 0, 14, 0, 0, 0, 0, []) := rfl
theorem tX0_anyMaskSet_14 : tbX0_anyMaskSet 14 = (.iload_n 2, 15, 0, 0, 0, 0, []) := rfl
theorem tX0_anyMaskSet_15 : tbX0_anyMaskSet 15 = (.invokevirtual 189, 18, 22, 1, 0, 0, []) := rfl
theorem tX0_anyMaskSet_18 : tbX0_anyMaskSet 18 = (.invokestatic 192, 21, 92, 1, 0, 0, []) := rfl
theorem tX0_anyMaskSet_21 : tbX0_anyMaskSet 21 = (.iload_n 2, 22, 0, 0, 0, 0, []) := rfl
theorem tX0_anyMaskSet_22 : tbX0_anyMaskSet 22 = (.ishl, 23, 0, 0, 0, 0, []) := rfl
theorem tX0_anyMaskSet_23 : tbX0_anyMaskSet 23 = (.ior, 24, 0, 0, 0, 0, []) := rfl
theorem tX0_anyMaskSet_24 : tbX0_anyMaskSet 24 = (.istore_n 1, 25, 0, 0, 0, 0, []) := rfl
theorem tX0_anyMaskSet_25 : tbX0_anyMaskSet 25 = (.iinc 2 1, 28, 0, 0, 0, 1, []) := rfl
theorem tX0_anyMaskSet_28 : tbX0_anyMaskSet 28 = (.goto (-24), 31, 4, 0, 0, 0, []) := rfl
theorem tX0_anyMaskSet_31 : tbX0_anyMaskSet 31 = (.iload_n 1, 32, 0, 0, 0, 0, []) := rfl
theorem tX0_anyMaskSet_32 : tbX0_anyMaskSet 32 = (.ireturn, 33, 0, 0, 0, 0, []) := rfl
def ltX0_linesBelow : List (Nat × pm_E) := [(0, .iconst 0, 1, 0, 0, 0, 0, []), (1, .istore_n 2, 2, 0, 0, 0, 0, []), (2, .iconst 0, 3, 0, 0, 0, 0, []), (3, .istore_n 3, 4, 0, 0, 0, 0, []), (4, .iload_n 3, 5, 0, 0, 0, 0, []), (5, .aload_n 0, 6, 0, 0, 0, 0, []), (6, .getfield 59, 9, 0, 3, 0, 0, []), (9, .if_icmp .ge 35, 12, 44, 0, 0, 0, []), (12, .iload_n 2, 13, 0, 0, 0, 0, []), (13, .aload_n 0, 14, 0, 0, 0, 0, []), (14, .getfield 11, 17, 0, 0, 0, 0, [(0, 0)]), (17, .aload_n 0, 18, 0, 0, 0, 0, []), (18, .getfield 20, 21, 0, 1, 0, 0, [(0, 0)]), (21, .iload_n 3, 22, 0, 0, 0, 0, []), (22, .aaload, 23, 0, 0, 0, 0, []), (23, .getfield 98, 26, 3, 0, 0, 0, []), (26, .aaload, 27, 0, 0, 0, 0, []), (27, .getfield 43, 30, 4, 3, 0, 0, []), (30, .iload_n 1, 31, 0, 0, 0, 0, []), (31, .ishr, 32, 0, 0, 0, 0, []), (32, .iconst 1, 33, 0, 0, 0, 1, []), (33, .iand, 34, 0, 0, 0, 0, []), (34, .iload_n 3, 35, 0, 0, 0, 0, []), (35, .ishl, 36, 0, 0, 0, 0, []), (36, .ior, 37, 0, 0, 0, 0, []), (37, .istore_n 2, 38, 0, 0, 0, 0, []), (38, .iinc 3 1, 41, 0, 0, 0, 1, []), (41, .goto (-37), 44, 4, 0, 0, 0, []), (44, .iload_n 2, 45, 0, 0, 0, 0, []), (45, .ireturn, 46, 0, 0, 0, 0, [])]
def tbX0_linesBelow : Nat → pm_E := pm_lk ltX0_linesBelow
theorem okX0_linesBelow : ∀ pc, (tbX0_linesBelow pc).1 = .nop ∨ pm_ok mX0_linesBelow pw_Ms pc (tbX0_linesBelow pc) := pm_lk_ok (by decide +kernel)
theorem nr_X0_linesBelow : mX0_linesBelow.2.2.2 = (some .int) := rfl
theorem tX0_linesBelow_0 : tbX0_linesBelow 0 = (.iconst 0, 1, 0, 0, 0, 0, []) := rfl
theorem tX0_linesBelow_1 : tbX0_linesBelow 1 = (.istore_n 2, 2, 0, 0, 0, 0, []) := rfl
theorem tX0_linesBelow_2 : tbX0_linesBelow 2 = (.iconst 0, 3, 0, 0, 0, 0, []) := rfl
theorem tX0_linesBelow_3 : tbX0_linesBelow 3 = (.istore_n 3, 4, 0, 0, 0, 0, []) := rfl
theorem tX0_linesBelow_4 : tbX0_linesBelow 4 = (.iload_n 3, 5, 0, 0, 0, 0, []) := rfl
theorem tX0_linesBelow_5 : tbX0_linesBelow 5 = (.aload_n 0, 6, 0, 0, 0, 0, []) := rfl
theorem tX0_linesBelow_6 : tbX0_linesBelow 6 = (.getfield 59, 9, 0, 3, 0, 0, []) := rfl
theorem tX0_linesBelow_9 : tbX0_linesBelow 9 = (.if_icmp .ge 35, 12, 44, 0, 0, 0, []) := rfl
theorem tX0_linesBelow_12 : tbX0_linesBelow 12 = (.iload_n 2, 13, 0, 0, 0, 0, []) := rfl
theorem tX0_linesBelow_13 : tbX0_linesBelow 13 = (.aload_n 0, 14, 0, 0, 0, 0, []) := rfl
theorem tX0_linesBelow_14 : tbX0_linesBelow 14 = (.getfield 11, 17, 0, 0, 0, 0, [(0, 0)]) := rfl
theorem tX0_linesBelow_17 : tbX0_linesBelow 17 = (.aload_n 0, 18, 0, 0, 0, 0, []) := rfl
theorem tX0_linesBelow_18 : tbX0_linesBelow 18 = (.getfield 20, 21, 0, 1, 0, 0, [(0, 0)]) := rfl
theorem tX0_linesBelow_21 : tbX0_linesBelow 21 = (.iload_n 3, 22, 0, 0, 0, 0, []) := rfl
theorem tX0_linesBelow_22 : tbX0_linesBelow 22 = (.aaload, 23, 0, 0, 0, 0, []) := rfl
theorem tX0_linesBelow_23 : tbX0_linesBelow 23 = (.getfield 98, 26, 3, 0, 0, 0, []) := rfl
theorem tX0_linesBelow_26 : tbX0_linesBelow 26 = (.aaload, 27, 0, 0, 0, 0, []) := rfl
theorem tX0_linesBelow_27 : tbX0_linesBelow 27 = (.getfield 43, 30, 4, 3, 0, 0, []) := rfl
theorem tX0_linesBelow_30 : tbX0_linesBelow 30 = (.iload_n 1, 31, 0, 0, 0, 0, []) := rfl
theorem tX0_linesBelow_31 : tbX0_linesBelow 31 = (.ishr, 32, 0, 0, 0, 0, []) := rfl
theorem tX0_linesBelow_32 : tbX0_linesBelow 32 = (.iconst 1, 33, 0, 0, 0, 1, []) := rfl
theorem tX0_linesBelow_33 : tbX0_linesBelow 33 = (.iand, 34, 0, 0, 0, 0, []) := rfl
theorem tX0_linesBelow_34 : tbX0_linesBelow 34 = (.iload_n 3, 35, 0, 0, 0, 0, []) := rfl
theorem tX0_linesBelow_35 : tbX0_linesBelow 35 = (.ishl, 36, 0, 0, 0, 0, []) := rfl
theorem tX0_linesBelow_36 : tbX0_linesBelow 36 = (.ior, 37, 0, 0, 0, 0, []) := rfl
theorem tX0_linesBelow_37 : tbX0_linesBelow 37 = (.istore_n 2, 38, 0, 0, 0, 0, []) := rfl
theorem tX0_linesBelow_38 : tbX0_linesBelow 38 = (.iinc 3 1, 41, 0, 0, 0, 1, []) := rfl
theorem tX0_linesBelow_41 : tbX0_linesBelow 41 = (.goto (-37), 44, 4, 0, 0, 0, []) := rfl
theorem tX0_linesBelow_44 : tbX0_linesBelow 44 = (.iload_n 2, 45, 0, 0, 0, 0, []) := rfl
theorem tX0_linesBelow_45 : tbX0_linesBelow 45 = (.ireturn, 46, 0, 0, 0, 0, []) := rfl
def ltX0_edgeLineSet : List (Nat × pm_E) := [(0, .iconst 0, 1, 0, 0, 0, 0, []), (1, .istore_n 1, 2, 0, 0, 0, 0, []), (2, .iconst 0, 3, 0, 0, 0, 0, []), (3, .istore_n 2, 4, 0, 0, 0, 0, []), (4, .iload_n 2, 5, 0, 0, 0, 0, []), (5, .aload_n 0, 6, 0, 0, 0, 0, []), (6, .getfield 59, 9, 0, 3, 0, 0, []), (9, .if_icmp .ge 34, 12, 43, 0, 0, 0, []), (12, .iload_n 1, 13, 0, 0, 0, 0, []), (13, .aload_n 0, 14, 0, 0, 0, 0, []), (14, .getfield 20, 17, 0, 1, 0, 0, [(0, 0)]), (17, .iload_n 2, 18, 0, 0, 0, 0, []), (18, .aaload, 19, 0, 0, 0, 0, []), (19, .getfield 104, 22, 3, 2, 0, 0, []), (22, .ifCond .ne 7, 25, 29, 0, 0, 0, []), (25, .iconst 1, 26, 0, 0, 0, 1, []), (26, .goto 4, 29, 30, 0, 0, 0, []), (29, .iconst 0, 30, 0, 0, 0, 0, []), (30, .invokestatic 192, 33, 92, 1, 0, 0, []), (33, .iload_n 2, 34, 0, 0, 0, 0, []), (34, .ishl, 35, 0, 0, 0, 0, []), (35, .ior, 36, 0, 0, 0, 0, []), (36, .istore_n 1, 37, 0, 0, 0, 0, []), (37, .iinc 2 1, 40, 0, 0, 0, 1, []), (40, .goto (-36), 43, 4, 0, 0, 0, []), (43, .iload_n 1, 44, 0, 0, 0, 0, []), (44, .ireturn, 45, 0, 0, 0, 0, [])]
def tbX0_edgeLineSet : Nat → pm_E := pm_lk ltX0_edgeLineSet
theorem okX0_edgeLineSet : ∀ pc, (tbX0_edgeLineSet pc).1 = .nop ∨ pm_ok mX0_edgeLineSet pw_Ms pc (tbX0_edgeLineSet pc) := pm_lk_ok (by decide +kernel)
theorem nr_X0_edgeLineSet : mX0_edgeLineSet.2.2.2 = (some .int) := rfl
theorem tX0_edgeLineSet_0 : tbX0_edgeLineSet 0 = (.iconst 0, 1, 0, 0, 0, 0, []) := rfl
theorem tX0_edgeLineSet_1 : tbX0_edgeLineSet 1 = (.istore_n 1, 2, 0, 0, 0, 0, []) := rfl
theorem tX0_edgeLineSet_2 : tbX0_edgeLineSet 2 = (.iconst 0, 3, 0, 0, 0, 0, []) := rfl
theorem tX0_edgeLineSet_3 : tbX0_edgeLineSet 3 = (.istore_n 2, 4, 0, 0, 0, 0, []) := rfl
theorem tX0_edgeLineSet_4 : tbX0_edgeLineSet 4 = (.iload_n 2, 5, 0, 0, 0, 0, []) := rfl
theorem tX0_edgeLineSet_5 : tbX0_edgeLineSet 5 = (.aload_n 0, 6, 0, 0, 0, 0, []) := rfl
theorem tX0_edgeLineSet_6 : tbX0_edgeLineSet 6 = (.getfield 59, 9, 0, 3, 0, 0, []) := rfl
theorem tX0_edgeLineSet_9 : tbX0_edgeLineSet 9 = (.if_icmp .ge 34, 12, 43, 0, 0, 0, []) := rfl
theorem tX0_edgeLineSet_12 : tbX0_edgeLineSet 12 = (.iload_n 1, 13, 0, 0, 0, 0, []) := rfl
theorem tX0_edgeLineSet_13 : tbX0_edgeLineSet 13 = (.aload_n 0, 14, 0, 0, 0, 0, []) := rfl
theorem tX0_edgeLineSet_14 : tbX0_edgeLineSet 14 = (.getfield 20, 17, 0, 1, 0, 0, [(0, 0)]) := rfl
theorem tX0_edgeLineSet_17 : tbX0_edgeLineSet 17 = (.iload_n 2, 18, 0, 0, 0, 0, []) := rfl
theorem tX0_edgeLineSet_18 : tbX0_edgeLineSet 18 = (.aaload, 19, 0, 0, 0, 0, []) := rfl
theorem tX0_edgeLineSet_19 : tbX0_edgeLineSet 19 = (.getfield 104, 22, 3, 2, 0, 0, []) := rfl
theorem tX0_edgeLineSet_22 : tbX0_edgeLineSet 22 = (.ifCond .ne 7, 25, 29, 0, 0, 0, []) := rfl
theorem tX0_edgeLineSet_25 : tbX0_edgeLineSet 25 = (.iconst 1, 26, 0, 0, 0, 1, []) := rfl
theorem tX0_edgeLineSet_26 : tbX0_edgeLineSet 26 = (.goto 4, 29, 30, 0, 0, 0, []) := rfl
theorem tX0_edgeLineSet_29 : tbX0_edgeLineSet 29 = (.iconst 0, 30, 0, 0, 0, 0, []) := rfl
theorem tX0_edgeLineSet_30 : tbX0_edgeLineSet 30 = (.invokestatic 192, 33, 92, 1, 0, 0, []) := rfl
theorem tX0_edgeLineSet_33 : tbX0_edgeLineSet 33 = (.iload_n 2, 34, 0, 0, 0, 0, []) := rfl
theorem tX0_edgeLineSet_34 : tbX0_edgeLineSet 34 = (.ishl, 35, 0, 0, 0, 0, []) := rfl
theorem tX0_edgeLineSet_35 : tbX0_edgeLineSet 35 = (.ior, 36, 0, 0, 0, 0, []) := rfl
theorem tX0_edgeLineSet_36 : tbX0_edgeLineSet 36 = (.istore_n 1, 37, 0, 0, 0, 0, []) := rfl
theorem tX0_edgeLineSet_37 : tbX0_edgeLineSet 37 = (.iinc 2 1, 40, 0, 0, 0, 1, []) := rfl
theorem tX0_edgeLineSet_40 : tbX0_edgeLineSet 40 = (.goto (-36), 43, 4, 0, 0, 0, []) := rfl
theorem tX0_edgeLineSet_43 : tbX0_edgeLineSet 43 = (.iload_n 1, 44, 0, 0, 0, 0, []) := rfl
theorem tX0_edgeLineSet_44 : tbX0_edgeLineSet 44 = (.ireturn, 45, 0, 0, 0, 0, []) := rfl
def ltX0_tellLine : List (Nat × pm_E) := [(0, .aload_n 0, 1, 0, 0, 0, 0, []), (1, .iload_n 1, 2, 0, 0, 0, 0, []), (2, .invokevirtual 107, 5, 3, 1, 0, 0, []), (5, .ifCond .ne 5, 8, 10, 0, 0, 0, []), (8, .iconst (-1), 9, 0, 0, 0, -1, []), (9, .ireturn, 10, 0, 0, 0, 0, []), (10, .aload_n 0, 11, 0, 0, 0, 0, []), (11, .getfield 20, 14, 0, 1, 0, 0, [(0, 0)]), (14, .iload_n 1, 15, 0, 0, 0, 0, []), (15, .aaload, 16, 0, 0, 0, 0, []), (16, .astore_n 3, 17, 0, 0, 0, 0, []), (17, .iload_n 2, 18, 0, 0, 0, 0, []), (18, .tableswitch 176 0 11 #[62, 67, 72, 80, 88, 93, 101, 114, 119, 124, 129, 153], 80, 194, 0, 0, 0, [(0, 80), (1, 85), (2, 90), (3, 98), (4, 106), (5, 111), (6, 119), (7, 132), (8, 137), (9, 142), (10, 147), (11, 171)]), (80, .aload_n 3, 81, 0, 0, 0, 0, []), (81, .getfield 98, 84, 3, 0, 0, 0, []), (84, .ireturn, 85, 0, 0, 0, 0, []), (85, .aload_n 3, 86, 0, 0, 0, 0, []), (86, .getfield 101, 89, 3, 1, 0, 0, []), (89, .ireturn, 90, 0, 0, 0, 0, []), (90, .aload_n 3, 91, 0, 0, 0, 0, []), (91, .getfield 104, 94, 3, 2, 0, 0, []), (94, .invokestatic 192, 97, 92, 1, 0, 0, []), (97, .ireturn, 98, 0, 0, 0, 0, []), (98, .aload_n 3, 99, 0, 0, 0, 0, []), (99, .getfield 129, 102, 3, 3, 0, 0, []), (102, .invokestatic 192, 105, 92, 1, 0, 0, []), (105, .ireturn, 106, 0, 0, 0, 0, []), (106, .aload_n 3, 107, 0, 0, 0, 0, []), (107, .getfield 144, 110, 3, 5, 0, 0, []), (110, .ireturn, 111, 0, 0, 0, 0, []), (111, .aload_n 3, 112, 0, 0, 0, 0, []), (112, .getfield 110, 115, 3, 4, 0, 0, []), (115, .invokestatic 192, 118, 92, 1, 0, 0, []), (118, .ireturn, 119, 0, 0, 0, 0, []), (119, .aload_n 0, 120, 0, 0, 0, 0, []), (120, .iload_n 1, 121, 0, 0, 0, 0, []), (121, .aload_n 0, 122, 0, 0, 0, 0, []), (122, .invokevirtual 182, 125, 20, 0, 0, 0, []), (125, .invokevirtual 185, 128, 21, 2, 0, 0, []), (128, .invokestatic 192, 131, 92, 1, 0, 0, []), (131, .ireturn, 132, 0, 0, 0, 0, []), (132, .aload_n 3, 133, 0, 0, 0, 0, []), (133, .getfield 126, 136, 3, 6, 0, 0, []), (136, .ireturn, 137, 0, 0, 0, 0, []), (137, .aload_n 3, 138, 0, 0, 0, 0, []), (138, .getfield 132, 141, 3, 7, 0, 0, []), (141, .ireturn, 142, 0, 0, 0, 0, []), (142, .aload_n 3, 143, 0, 0, 0, 0, []), (143, .getfield 147, 146, 3, 8, 0, 0, []), (146, .ireturn, 147, 0, 0, 0, 0, []), (147, .aload_n 3, 148, 0, 0, 0, 0, []), (148, .getfield 104, 151, 3, 2, 0, 0, []), (151, .ifCond .ne 10, 154, 161, 0, 0, 0, []), (154, .aload_n 3, 155, 0, 0, 0, 0, []), (155, .getfield 147, 158, 3, 8, 0, 0, []), (158, .ifCond .ne 8, 161, 166, 0, 0, 0, []), (161, .bipush (-4), 163, 0, 0, 0, -4, []), (163, .goto 7, 166, 170, 0, 0, 0, []), (166, .aload_n 3, 167, 0, 0, 0, 0, []), (167, .getfield 150, 170, 3, 9, 0, 0, []), (170, .ireturn, 171, 0, 0, 0, 0, []), (171, .aload_n 3, 172, 0, 0, 0, 0, []), (172, .getfield 144, 175, 3, 5, 0, 0, []), (175, .iconst 2, 176, 0, 0, 0, 2, []), (176, .if_icmp .ne 15, 179, 191, 0, 0, 0, []), (179, .aload_n 3, 180, 0, 0, 0, 0, []), (180, .getfield 169, 183, 3, 11, 0, 0, []), (183, .aload_n 0, 184, 0, 0, 0, 0, []), (184, .getfield 65, 187, 0, 5, 0, 0, []), (187, .isub, 188, 0, 0, 0, 0, []), (188, .goto 5, 191, 193, 0, 0, 0, []), (191, .bipush (-4), 193, 0, 0, 0, -4, []), (193, .ireturn, 194, 0, 0, 0, 0, []), (194, .iconst (-1), 195, 0, 0, 0, -1, []), (195, .ireturn, 196, 0, 0, 0, 0, [])]
def tbX0_tellLine : Nat → pm_E := pm_lk ltX0_tellLine
theorem okX0_tellLine : ∀ pc, (tbX0_tellLine pc).1 = .nop ∨ pm_ok mX0_tellLine pw_Ms pc (tbX0_tellLine pc) := pm_lk_ok (by decide +kernel)
theorem nr_X0_tellLine : mX0_tellLine.2.2.2 = (some .int) := rfl
theorem tX0_tellLine_0 : tbX0_tellLine 0 = (.aload_n 0, 1, 0, 0, 0, 0, []) := rfl
theorem tX0_tellLine_1 : tbX0_tellLine 1 = (.iload_n 1, 2, 0, 0, 0, 0, []) := rfl
theorem tX0_tellLine_2 : tbX0_tellLine 2 = (.invokevirtual 107, 5, 3, 1, 0, 0, []) := rfl
theorem tX0_tellLine_5 : tbX0_tellLine 5 = (.ifCond .ne 5, 8, 10, 0, 0, 0, []) := rfl
theorem tX0_tellLine_8 : tbX0_tellLine 8 = (.iconst (-1), 9, 0, 0, 0, -1, []) := rfl
theorem tX0_tellLine_9 : tbX0_tellLine 9 = (.ireturn, 10, 0, 0, 0, 0, []) := rfl
theorem tX0_tellLine_10 : tbX0_tellLine 10 = (.aload_n 0, 11, 0, 0, 0, 0, []) := rfl
theorem tX0_tellLine_11 : tbX0_tellLine 11 = (.getfield 20, 14, 0, 1, 0, 0, [(0, 0)]) := rfl
theorem tX0_tellLine_14 : tbX0_tellLine 14 = (.iload_n 1, 15, 0, 0, 0, 0, []) := rfl
theorem tX0_tellLine_15 : tbX0_tellLine 15 = (.aaload, 16, 0, 0, 0, 0, []) := rfl
theorem tX0_tellLine_16 : tbX0_tellLine 16 = (.astore_n 3, 17, 0, 0, 0, 0, []) := rfl
theorem tX0_tellLine_17 : tbX0_tellLine 17 = (.iload_n 2, 18, 0, 0, 0, 0, []) := rfl
theorem tX0_tellLine_18 : tbX0_tellLine 18 = (.tableswitch 176 0 11 #[62, 67, 72, 80, 88, 93, 101, 114, 119, 124, 129, 153], 80, 194, 0, 0, 0, [(0, 80), (1, 85), (2, 90), (3, 98), (4, 106), (5, 111), (6, 119), (7, 132), (8, 137), (9, 142), (10, 147), (11, 171)]) := rfl
theorem tX0_tellLine_80 : tbX0_tellLine 80 = (.aload_n 3, 81, 0, 0, 0, 0, []) := rfl
theorem tX0_tellLine_81 : tbX0_tellLine 81 = (.getfield 98, 84, 3, 0, 0, 0, []) := rfl
theorem tX0_tellLine_84 : tbX0_tellLine 84 = (.ireturn, 85, 0, 0, 0, 0, []) := rfl
theorem tX0_tellLine_85 : tbX0_tellLine 85 = (.aload_n 3, 86, 0, 0, 0, 0, []) := rfl
theorem tX0_tellLine_86 : tbX0_tellLine 86 = (.getfield 101, 89, 3, 1, 0, 0, []) := rfl
theorem tX0_tellLine_89 : tbX0_tellLine 89 = (.ireturn, 90, 0, 0, 0, 0, []) := rfl
theorem tX0_tellLine_90 : tbX0_tellLine 90 = (.aload_n 3, 91, 0, 0, 0, 0, []) := rfl
theorem tX0_tellLine_91 : tbX0_tellLine 91 = (.getfield 104, 94, 3, 2, 0, 0, []) := rfl
theorem tX0_tellLine_94 : tbX0_tellLine 94 = (.invokestatic 192, 97, 92, 1, 0, 0, []) := rfl
theorem tX0_tellLine_97 : tbX0_tellLine 97 = (.ireturn, 98, 0, 0, 0, 0, []) := rfl
theorem tX0_tellLine_98 : tbX0_tellLine 98 = (.aload_n 3, 99, 0, 0, 0, 0, []) := rfl
theorem tX0_tellLine_99 : tbX0_tellLine 99 = (.getfield 129, 102, 3, 3, 0, 0, []) := rfl
theorem tX0_tellLine_102 : tbX0_tellLine 102 = (.invokestatic 192, 105, 92, 1, 0, 0, []) := rfl
theorem tX0_tellLine_105 : tbX0_tellLine 105 = (.ireturn, 106, 0, 0, 0, 0, []) := rfl
theorem tX0_tellLine_106 : tbX0_tellLine 106 = (.aload_n 3, 107, 0, 0, 0, 0, []) := rfl
theorem tX0_tellLine_107 : tbX0_tellLine 107 = (.getfield 144, 110, 3, 5, 0, 0, []) := rfl
theorem tX0_tellLine_110 : tbX0_tellLine 110 = (.ireturn, 111, 0, 0, 0, 0, []) := rfl
theorem tX0_tellLine_111 : tbX0_tellLine 111 = (.aload_n 3, 112, 0, 0, 0, 0, []) := rfl
theorem tX0_tellLine_112 : tbX0_tellLine 112 = (.getfield 110, 115, 3, 4, 0, 0, []) := rfl
theorem tX0_tellLine_115 : tbX0_tellLine 115 = (.invokestatic 192, 118, 92, 1, 0, 0, []) := rfl
theorem tX0_tellLine_118 : tbX0_tellLine 118 = (.ireturn, 119, 0, 0, 0, 0, []) := rfl
theorem tX0_tellLine_119 : tbX0_tellLine 119 = (.aload_n 0, 120, 0, 0, 0, 0, []) := rfl
theorem tX0_tellLine_120 : tbX0_tellLine 120 = (.iload_n 1, 121, 0, 0, 0, 0, []) := rfl
theorem tX0_tellLine_121 : tbX0_tellLine 121 = (.aload_n 0, 122, 0, 0, 0, 0, []) := rfl
theorem tX0_tellLine_122 : tbX0_tellLine 122 = (.invokevirtual 182, 125, 20, 0, 0, 0, []) := rfl
theorem tX0_tellLine_125 : tbX0_tellLine 125 = (.invokevirtual 185, 128, 21, 2, 0, 0, []) := rfl
theorem tX0_tellLine_128 : tbX0_tellLine 128 = (.invokestatic 192, 131, 92, 1, 0, 0, []) := rfl
theorem tX0_tellLine_131 : tbX0_tellLine 131 = (.ireturn, 132, 0, 0, 0, 0, []) := rfl
theorem tX0_tellLine_132 : tbX0_tellLine 132 = (.aload_n 3, 133, 0, 0, 0, 0, []) := rfl
theorem tX0_tellLine_133 : tbX0_tellLine 133 = (.getfield 126, 136, 3, 6, 0, 0, []) := rfl
theorem tX0_tellLine_136 : tbX0_tellLine 136 = (.ireturn, 137, 0, 0, 0, 0, []) := rfl
theorem tX0_tellLine_137 : tbX0_tellLine 137 = (.aload_n 3, 138, 0, 0, 0, 0, []) := rfl
theorem tX0_tellLine_138 : tbX0_tellLine 138 = (.getfield 132, 141, 3, 7, 0, 0, []) := rfl
theorem tX0_tellLine_141 : tbX0_tellLine 141 = (.ireturn, 142, 0, 0, 0, 0, []) := rfl
theorem tX0_tellLine_142 : tbX0_tellLine 142 = (.aload_n 3, 143, 0, 0, 0, 0, []) := rfl
theorem tX0_tellLine_143 : tbX0_tellLine 143 = (.getfield 147, 146, 3, 8, 0, 0, []) := rfl
theorem tX0_tellLine_146 : tbX0_tellLine 146 = (.ireturn, 147, 0, 0, 0, 0, []) := rfl
theorem tX0_tellLine_147 : tbX0_tellLine 147 = (.aload_n 3, 148, 0, 0, 0, 0, []) := rfl
theorem tX0_tellLine_148 : tbX0_tellLine 148 = (.getfield 104, 151, 3, 2, 0, 0, []) := rfl
theorem tX0_tellLine_151 : tbX0_tellLine 151 = (.ifCond .ne 10, 154, 161, 0, 0, 0, []) := rfl
theorem tX0_tellLine_154 : tbX0_tellLine 154 = (.aload_n 3, 155, 0, 0, 0, 0, []) := rfl
theorem tX0_tellLine_155 : tbX0_tellLine 155 = (.getfield 147, 158, 3, 8, 0, 0, []) := rfl
theorem tX0_tellLine_158 : tbX0_tellLine 158 = (.ifCond .ne 8, 161, 166, 0, 0, 0, []) := rfl
theorem tX0_tellLine_161 : tbX0_tellLine 161 = (.bipush (-4), 163, 0, 0, 0, -4, []) := rfl
theorem tX0_tellLine_163 : tbX0_tellLine 163 = (.goto 7, 166, 170, 0, 0, 0, []) := rfl
theorem tX0_tellLine_166 : tbX0_tellLine 166 = (.aload_n 3, 167, 0, 0, 0, 0, []) := rfl
theorem tX0_tellLine_167 : tbX0_tellLine 167 = (.getfield 150, 170, 3, 9, 0, 0, []) := rfl
theorem tX0_tellLine_170 : tbX0_tellLine 170 = (.ireturn, 171, 0, 0, 0, 0, []) := rfl
theorem tX0_tellLine_171 : tbX0_tellLine 171 = (.aload_n 3, 172, 0, 0, 0, 0, []) := rfl
theorem tX0_tellLine_172 : tbX0_tellLine 172 = (.getfield 144, 175, 3, 5, 0, 0, []) := rfl
theorem tX0_tellLine_175 : tbX0_tellLine 175 = (.iconst 2, 176, 0, 0, 0, 2, []) := rfl
theorem tX0_tellLine_176 : tbX0_tellLine 176 = (.if_icmp .ne 15, 179, 191, 0, 0, 0, []) := rfl
theorem tX0_tellLine_179 : tbX0_tellLine 179 = (.aload_n 3, 180, 0, 0, 0, 0, []) := rfl
theorem tX0_tellLine_180 : tbX0_tellLine 180 = (.getfield 169, 183, 3, 11, 0, 0, []) := rfl
theorem tX0_tellLine_183 : tbX0_tellLine 183 = (.aload_n 0, 184, 0, 0, 0, 0, []) := rfl
theorem tX0_tellLine_184 : tbX0_tellLine 184 = (.getfield 65, 187, 0, 5, 0, 0, []) := rfl
theorem tX0_tellLine_187 : tbX0_tellLine 187 = (.isub, 188, 0, 0, 0, 0, []) := rfl
theorem tX0_tellLine_188 : tbX0_tellLine 188 = (.goto 5, 191, 193, 0, 0, 0, []) := rfl
theorem tX0_tellLine_191 : tbX0_tellLine 191 = (.bipush (-4), 193, 0, 0, 0, -4, []) := rfl
theorem tX0_tellLine_193 : tbX0_tellLine 193 = (.ireturn, 194, 0, 0, 0, 0, []) := rfl
theorem tX0_tellLine_194 : tbX0_tellLine 194 = (.iconst (-1), 195, 0, 0, 0, -1, []) := rfl
theorem tX0_tellLine_195 : tbX0_tellLine 195 = (.ireturn, 196, 0, 0, 0, 0, []) := rfl
def ltX0_tellNode : List (Nat × pm_E) := [(0, .aload_n 0, 1, 0, 0, 0, 0, []), (1, .iload_n 1, 2, 0, 0, 0, 0, []), (2, .invokevirtual 77, 5, 2, 1, 0, 0, []), (5, .ifCond .ne 5, 8, 10, 0, 0, 0, []), (8, .iconst (-1), 9, 0, 0, 0, -1, []), (9, .ireturn, 10, 0, 0, 0, 0, []), (10, .aload_n 0, 11, 0, 0, 0, 0, []), (11, .getfield 11, 14, 0, 0, 0, 0, [(0, 0)]), (14, .iload_n 1, 15, 0, 0, 0, 0, []), (15, .aaload, 16, 0, 0, 0, 0, []), (16, .astore_n 3, 17, 0, 0, 0, 0, []), (17, .iload_n 2, 18, 0, 0, 0, 0, []), (18, .tableswitch 101 0 5 #[38, 56, 64, 72, 81, 90], 56, 119, 0, 0, 0, [(0, 56), (1, 74), (2, 82), (3, 90), (4, 99), (5, 108)]), (56, .aload_n 3, 57, 0, 0, 0, 0, []), (57, .getfield 39, 60, 4, 1, 0, 0, []), (60, .iconst (-1), 61, 0, 0, 0, -1, []), (61, .if_icmp .ne 8, 64, 69, 0, 0, 0, []), (64, .bipush (-4), 66, 0, 0, 0, -4, []), (66, .goto 7, 69, 73, 0, 0, 0, []), (69, .aload_n 3, 70, 0, 0, 0, 0, []), (70, .getfield 39, 73, 4, 1, 0, 0, []), (73, .ireturn, 74, 0, 0, 0, 0, []), (74, .aload_n 3, 75, 0, 0, 0, 0, []), (75, .getfield 84, 78, 4, 2, 0, 0, []), (78, .invokestatic 192, 81, 92, 1, 0, 0, []), (81, .ireturn, 82, 0, 0, 0, 0, []), (82, .aload_n 3, 83, 0, 0, 0, 0, []), (83, .getfield 88, 86, 4, 0, 0, 0, [(0, 0)]), (86, .getfield 91, 89, 5, 1, 0, 0, []), (89, .ireturn, 90, 0, 0, 0, 0, []), (90, .aload_n 0, 91, 0, 0, 0, 0, []), (91, .getfield 62, 94, 0, 4, 0, 0, []), (94, .iload_n 1, 95, 0, 0, 0, 0, []), (95, .ishr, 96, 0, 0, 0, 0, []), (96, .iconst 1, 97, 0, 0, 0, 1, []), (97, .iand, 98, 0, 0, 0, 0, []), (98, .ireturn, 99, 0, 0, 0, 0, []), (99, .aload_n 0, 100, 0, 0, 0, 0, []), (100, .iload_n 1, 101, 0, 0, 0, 0, []), (101, .invokevirtual 123, 104, 28, 1, 0, 0, []), (104, .invokestatic 117, 107, 156, 1, 0, 0, []), (107, .ireturn, 108, 0, 0, 0, 0, []), (108, .aload_n 0, 109, 0, 0, 0, 0, []), (109, .iload_n 1, 110, 0, 0, 0, 0, []), (110, .invokevirtual 123, 113, 28, 1, 0, 0, []), (113, .aload_n 0, 114, 0, 0, 0, 0, []), (114, .invokevirtual 138, 117, 23, 0, 0, 0, []), (117, .iand, 118, 0, 0, 0, 0, []), (118, .ireturn, 119, 0, 0, 0, 0, []), (119, .iconst (-1), 120, 0, 0, 0, -1, []), (120, .ireturn, 121, 0, 0, 0, 0, [])]
def tbX0_tellNode : Nat → pm_E := pm_lk ltX0_tellNode
theorem okX0_tellNode : ∀ pc, (tbX0_tellNode pc).1 = .nop ∨ pm_ok mX0_tellNode pw_Ms pc (tbX0_tellNode pc) := pm_lk_ok (by decide +kernel)
theorem nr_X0_tellNode : mX0_tellNode.2.2.2 = (some .int) := rfl
theorem tX0_tellNode_0 : tbX0_tellNode 0 = (.aload_n 0, 1, 0, 0, 0, 0, []) := rfl
theorem tX0_tellNode_1 : tbX0_tellNode 1 = (.iload_n 1, 2, 0, 0, 0, 0, []) := rfl
theorem tX0_tellNode_2 : tbX0_tellNode 2 = (.invokevirtual 77, 5, 2, 1, 0, 0, []) := rfl
theorem tX0_tellNode_5 : tbX0_tellNode 5 = (.ifCond .ne 5, 8, 10, 0, 0, 0, []) := rfl
theorem tX0_tellNode_8 : tbX0_tellNode 8 = (.iconst (-1), 9, 0, 0, 0, -1, []) := rfl
theorem tX0_tellNode_9 : tbX0_tellNode 9 = (.ireturn, 10, 0, 0, 0, 0, []) := rfl
theorem tX0_tellNode_10 : tbX0_tellNode 10 = (.aload_n 0, 11, 0, 0, 0, 0, []) := rfl
theorem tX0_tellNode_11 : tbX0_tellNode 11 = (.getfield 11, 14, 0, 0, 0, 0, [(0, 0)]) := rfl
theorem tX0_tellNode_14 : tbX0_tellNode 14 = (.iload_n 1, 15, 0, 0, 0, 0, []) := rfl
theorem tX0_tellNode_15 : tbX0_tellNode 15 = (.aaload, 16, 0, 0, 0, 0, []) := rfl
theorem tX0_tellNode_16 : tbX0_tellNode 16 = (.astore_n 3, 17, 0, 0, 0, 0, []) := rfl
theorem tX0_tellNode_17 : tbX0_tellNode 17 = (.iload_n 2, 18, 0, 0, 0, 0, []) := rfl
theorem tX0_tellNode_18 : tbX0_tellNode 18 = (.tableswitch 101 0 5 #[38, 56, 64, 72, 81, 90], 56, 119, 0, 0, 0, [(0, 56), (1, 74), (2, 82), (3, 90), (4, 99), (5, 108)]) := rfl
theorem tX0_tellNode_56 : tbX0_tellNode 56 = (.aload_n 3, 57, 0, 0, 0, 0, []) := rfl
theorem tX0_tellNode_57 : tbX0_tellNode 57 = (.getfield 39, 60, 4, 1, 0, 0, []) := rfl
theorem tX0_tellNode_60 : tbX0_tellNode 60 = (.iconst (-1), 61, 0, 0, 0, -1, []) := rfl
theorem tX0_tellNode_61 : tbX0_tellNode 61 = (.if_icmp .ne 8, 64, 69, 0, 0, 0, []) := rfl
theorem tX0_tellNode_64 : tbX0_tellNode 64 = (.bipush (-4), 66, 0, 0, 0, -4, []) := rfl
theorem tX0_tellNode_66 : tbX0_tellNode 66 = (.goto 7, 69, 73, 0, 0, 0, []) := rfl
theorem tX0_tellNode_69 : tbX0_tellNode 69 = (.aload_n 3, 70, 0, 0, 0, 0, []) := rfl
theorem tX0_tellNode_70 : tbX0_tellNode 70 = (.getfield 39, 73, 4, 1, 0, 0, []) := rfl
theorem tX0_tellNode_73 : tbX0_tellNode 73 = (.ireturn, 74, 0, 0, 0, 0, []) := rfl
theorem tX0_tellNode_74 : tbX0_tellNode 74 = (.aload_n 3, 75, 0, 0, 0, 0, []) := rfl
theorem tX0_tellNode_75 : tbX0_tellNode 75 = (.getfield 84, 78, 4, 2, 0, 0, []) := rfl
theorem tX0_tellNode_78 : tbX0_tellNode 78 = (.invokestatic 192, 81, 92, 1, 0, 0, []) := rfl
theorem tX0_tellNode_81 : tbX0_tellNode 81 = (.ireturn, 82, 0, 0, 0, 0, []) := rfl
theorem tX0_tellNode_82 : tbX0_tellNode 82 = (.aload_n 3, 83, 0, 0, 0, 0, []) := rfl
theorem tX0_tellNode_83 : tbX0_tellNode 83 = (.getfield 88, 86, 4, 0, 0, 0, [(0, 0)]) := rfl
theorem tX0_tellNode_86 : tbX0_tellNode 86 = (.getfield 91, 89, 5, 1, 0, 0, []) := rfl
theorem tX0_tellNode_89 : tbX0_tellNode 89 = (.ireturn, 90, 0, 0, 0, 0, []) := rfl
theorem tX0_tellNode_90 : tbX0_tellNode 90 = (.aload_n 0, 91, 0, 0, 0, 0, []) := rfl
theorem tX0_tellNode_91 : tbX0_tellNode 91 = (.getfield 62, 94, 0, 4, 0, 0, []) := rfl
theorem tX0_tellNode_94 : tbX0_tellNode 94 = (.iload_n 1, 95, 0, 0, 0, 0, []) := rfl
theorem tX0_tellNode_95 : tbX0_tellNode 95 = (.ishr, 96, 0, 0, 0, 0, []) := rfl
theorem tX0_tellNode_96 : tbX0_tellNode 96 = (.iconst 1, 97, 0, 0, 0, 1, []) := rfl
theorem tX0_tellNode_97 : tbX0_tellNode 97 = (.iand, 98, 0, 0, 0, 0, []) := rfl
theorem tX0_tellNode_98 : tbX0_tellNode 98 = (.ireturn, 99, 0, 0, 0, 0, []) := rfl
theorem tX0_tellNode_99 : tbX0_tellNode 99 = (.aload_n 0, 100, 0, 0, 0, 0, []) := rfl
theorem tX0_tellNode_100 : tbX0_tellNode 100 = (.iload_n 1, 101, 0, 0, 0, 0, []) := rfl
theorem tX0_tellNode_101 : tbX0_tellNode 101 = (.invokevirtual 123, 104, 28, 1, 0, 0, []) := rfl
theorem tX0_tellNode_104 : tbX0_tellNode 104 = (.invokestatic 117, 107, 156, 1, 0, 0, []) := rfl
theorem tX0_tellNode_107 : tbX0_tellNode 107 = (.ireturn, 108, 0, 0, 0, 0, []) := rfl
theorem tX0_tellNode_108 : tbX0_tellNode 108 = (.aload_n 0, 109, 0, 0, 0, 0, []) := rfl
theorem tX0_tellNode_109 : tbX0_tellNode 109 = (.iload_n 1, 110, 0, 0, 0, 0, []) := rfl
theorem tX0_tellNode_110 : tbX0_tellNode 110 = (.invokevirtual 123, 113, 28, 1, 0, 0, []) := rfl
theorem tX0_tellNode_113 : tbX0_tellNode 113 = (.aload_n 0, 114, 0, 0, 0, 0, []) := rfl
theorem tX0_tellNode_114 : tbX0_tellNode 114 = (.invokevirtual 138, 117, 23, 0, 0, 0, []) := rfl
theorem tX0_tellNode_117 : tbX0_tellNode 117 = (.iand, 118, 0, 0, 0, 0, []) := rfl
theorem tX0_tellNode_118 : tbX0_tellNode 118 = (.ireturn, 119, 0, 0, 0, 0, []) := rfl
theorem tX0_tellNode_119 : tbX0_tellNode 119 = (.iconst (-1), 120, 0, 0, 0, -1, []) := rfl
theorem tX0_tellNode_120 : tbX0_tellNode 120 = (.ireturn, 121, 0, 0, 0, 0, []) := rfl
def ltX0_tellInput : List (Nat × pm_E) := [(0, .aload_n 0, 1, 0, 0, 0, 0, []), (1, .iload_n 1, 2, 0, 0, 0, 0, []), (2, .invokevirtual 77, 5, 2, 1, 0, 0, []), (5, .ifCond .eq 7, 8, 12, 0, 0, 0, []), (8, .iload_n 2, 9, 0, 0, 0, 0, []), (9, .ifCond .ge 5, 12, 14, 0, 0, 0, []), (12, .iconst (-1), 13, 0, 0, 0, -1, []), (13, .ireturn, 14, 0, 0, 0, 0, []), (14, .aload_n 0, 15, 0, 0, 0, 0, []), (15, .getfield 11, 18, 0, 0, 0, 0, [(0, 0)]), (18, .iload_n 1, 19, 0, 0, 0, 0, []), (19, .aaload, 20, 0, 0, 0, 0, []), (20, .getfield 88, 23, 4, 0, 0, 0, [(0, 0)]), (23, .iload_n 2, 24, 0, 0, 0, 0, []), (24, .invokevirtual 163, 27, 60, 1, 5, 0, []), (27, .istore_n 3, 28, 0, 0, 0, 0, []), (28, .iload_n 3, 29, 0, 0, 0, 0, []), (29, .iconst (-1), 30, 0, 0, 0, -1, []), (30, .if_icmp .ne 8, 33, 38, 0, 0, 0, []), (33, .bipush (-4), 35, 0, 0, 0, -4, []), (35, .goto 4, 38, 39, 0, 0, 0, []), (38, .iload_n 3, 39, 0, 0, 0, 0, []), (39, .ireturn, 40, 0, 0, 0, 0, [])]
def tbX0_tellInput : Nat → pm_E := pm_lk ltX0_tellInput
theorem okX0_tellInput : ∀ pc, (tbX0_tellInput pc).1 = .nop ∨ pm_ok mX0_tellInput pw_Ms pc (tbX0_tellInput pc) := pm_lk_ok (by decide +kernel)
theorem nr_X0_tellInput : mX0_tellInput.2.2.2 = (some .int) := rfl
theorem tX0_tellInput_0 : tbX0_tellInput 0 = (.aload_n 0, 1, 0, 0, 0, 0, []) := rfl
theorem tX0_tellInput_1 : tbX0_tellInput 1 = (.iload_n 1, 2, 0, 0, 0, 0, []) := rfl
theorem tX0_tellInput_2 : tbX0_tellInput 2 = (.invokevirtual 77, 5, 2, 1, 0, 0, []) := rfl
theorem tX0_tellInput_5 : tbX0_tellInput 5 = (.ifCond .eq 7, 8, 12, 0, 0, 0, []) := rfl
theorem tX0_tellInput_8 : tbX0_tellInput 8 = (.iload_n 2, 9, 0, 0, 0, 0, []) := rfl
theorem tX0_tellInput_9 : tbX0_tellInput 9 = (.ifCond .ge 5, 12, 14, 0, 0, 0, []) := rfl
theorem tX0_tellInput_12 : tbX0_tellInput 12 = (.iconst (-1), 13, 0, 0, 0, -1, []) := rfl
theorem tX0_tellInput_13 : tbX0_tellInput 13 = (.ireturn, 14, 0, 0, 0, 0, []) := rfl
theorem tX0_tellInput_14 : tbX0_tellInput 14 = (.aload_n 0, 15, 0, 0, 0, 0, []) := rfl
theorem tX0_tellInput_15 : tbX0_tellInput 15 = (.getfield 11, 18, 0, 0, 0, 0, [(0, 0)]) := rfl
theorem tX0_tellInput_18 : tbX0_tellInput 18 = (.iload_n 1, 19, 0, 0, 0, 0, []) := rfl
theorem tX0_tellInput_19 : tbX0_tellInput 19 = (.aaload, 20, 0, 0, 0, 0, []) := rfl
theorem tX0_tellInput_20 : tbX0_tellInput 20 = (.getfield 88, 23, 4, 0, 0, 0, [(0, 0)]) := rfl
theorem tX0_tellInput_23 : tbX0_tellInput 23 = (.iload_n 2, 24, 0, 0, 0, 0, []) := rfl
theorem tX0_tellInput_24 : tbX0_tellInput 24 = (.invokevirtual 163, 27, 60, 1, 5, 0, []) := rfl
theorem tX0_tellInput_27 : tbX0_tellInput 27 = (.istore_n 3, 28, 0, 0, 0, 0, []) := rfl
theorem tX0_tellInput_28 : tbX0_tellInput 28 = (.iload_n 3, 29, 0, 0, 0, 0, []) := rfl
theorem tX0_tellInput_29 : tbX0_tellInput 29 = (.iconst (-1), 30, 0, 0, 0, -1, []) := rfl
theorem tX0_tellInput_30 : tbX0_tellInput 30 = (.if_icmp .ne 8, 33, 38, 0, 0, 0, []) := rfl
theorem tX0_tellInput_33 : tbX0_tellInput 33 = (.bipush (-4), 35, 0, 0, 0, -4, []) := rfl
theorem tX0_tellInput_35 : tbX0_tellInput 35 = (.goto 4, 38, 39, 0, 0, 0, []) := rfl
theorem tX0_tellInput_38 : tbX0_tellInput 38 = (.iload_n 3, 39, 0, 0, 0, 0, []) := rfl
theorem tX0_tellInput_39 : tbX0_tellInput 39 = (.ireturn, 40, 0, 0, 0, 0, []) := rfl
def ltX0_tellService : List (Nat × pm_E) := [(0, .iload_n 1, 1, 0, 0, 0, 0, []), (1, .ifCond .ge 5, 4, 6, 0, 0, 0, []), (4, .iconst (-1), 5, 0, 0, 0, -1, []), (5, .ireturn, 6, 0, 0, 0, 0, []), (6, .aload_n 0, 7, 0, 0, 0, 0, []), (7, .getfield 28, 10, 0, 9, 0, 0, [(0, 0)]), (10, .aload_n 0, 11, 0, 0, 0, 0, []), (11, .getfield 28, 14, 0, 9, 0, 0, [(0, 0)]), (14, .getfield 91, 17, 5, 1, 0, 0, []), (17, .iconst 1, 18, 0, 0, 0, 1, []), (18, .isub, 19, 0, 0, 0, 0, []), (19, .iload_n 1, 20, 0, 0, 0, 0, []), (20, .isub, 21, 0, 0, 0, 0, []), (21, .invokevirtual 163, 24, 60, 1, 5, 0, []), (24, .istore_n 2, 25, 0, 0, 0, 0, []), (25, .iload_n 2, 26, 0, 0, 0, 0, []), (26, .iconst (-1), 27, 0, 0, 0, -1, []), (27, .if_icmp .ne 8, 30, 35, 0, 0, 0, []), (30, .bipush (-4), 32, 0, 0, 0, -4, []), (32, .goto 4, 35, 36, 0, 0, 0, []), (35, .iload_n 2, 36, 0, 0, 0, 0, []), (36, .ireturn, 37, 0, 0, 0, 0, [])]
def tbX0_tellService : Nat → pm_E := pm_lk ltX0_tellService
theorem okX0_tellService : ∀ pc, (tbX0_tellService pc).1 = .nop ∨ pm_ok mX0_tellService pw_Ms pc (tbX0_tellService pc) := pm_lk_ok (by decide +kernel)
theorem nr_X0_tellService : mX0_tellService.2.2.2 = (some .int) := rfl
theorem tX0_tellService_0 : tbX0_tellService 0 = (.iload_n 1, 1, 0, 0, 0, 0, []) := rfl
theorem tX0_tellService_1 : tbX0_tellService 1 = (.ifCond .ge 5, 4, 6, 0, 0, 0, []) := rfl
theorem tX0_tellService_4 : tbX0_tellService 4 = (.iconst (-1), 5, 0, 0, 0, -1, []) := rfl
theorem tX0_tellService_5 : tbX0_tellService 5 = (.ireturn, 6, 0, 0, 0, 0, []) := rfl
theorem tX0_tellService_6 : tbX0_tellService 6 = (.aload_n 0, 7, 0, 0, 0, 0, []) := rfl
theorem tX0_tellService_7 : tbX0_tellService 7 = (.getfield 28, 10, 0, 9, 0, 0, [(0, 0)]) := rfl
theorem tX0_tellService_10 : tbX0_tellService 10 = (.aload_n 0, 11, 0, 0, 0, 0, []) := rfl
theorem tX0_tellService_11 : tbX0_tellService 11 = (.getfield 28, 14, 0, 9, 0, 0, [(0, 0)]) := rfl
theorem tX0_tellService_14 : tbX0_tellService 14 = (.getfield 91, 17, 5, 1, 0, 0, []) := rfl
theorem tX0_tellService_17 : tbX0_tellService 17 = (.iconst 1, 18, 0, 0, 0, 1, []) := rfl
theorem tX0_tellService_18 : tbX0_tellService 18 = (.isub, 19, 0, 0, 0, 0, []) := rfl
theorem tX0_tellService_19 : tbX0_tellService 19 = (.iload_n 1, 20, 0, 0, 0, 0, []) := rfl
theorem tX0_tellService_20 : tbX0_tellService 20 = (.isub, 21, 0, 0, 0, 0, []) := rfl
theorem tX0_tellService_21 : tbX0_tellService 21 = (.invokevirtual 163, 24, 60, 1, 5, 0, []) := rfl
theorem tX0_tellService_24 : tbX0_tellService 24 = (.istore_n 2, 25, 0, 0, 0, 0, []) := rfl
theorem tX0_tellService_25 : tbX0_tellService 25 = (.iload_n 2, 26, 0, 0, 0, 0, []) := rfl
theorem tX0_tellService_26 : tbX0_tellService 26 = (.iconst (-1), 27, 0, 0, 0, -1, []) := rfl
theorem tX0_tellService_27 : tbX0_tellService 27 = (.if_icmp .ne 8, 30, 35, 0, 0, 0, []) := rfl
theorem tX0_tellService_30 : tbX0_tellService 30 = (.bipush (-4), 32, 0, 0, 0, -4, []) := rfl
theorem tX0_tellService_32 : tbX0_tellService 32 = (.goto 4, 35, 36, 0, 0, 0, []) := rfl
theorem tX0_tellService_35 : tbX0_tellService 35 = (.iload_n 2, 36, 0, 0, 0, 0, []) := rfl
theorem tX0_tellService_36 : tbX0_tellService 36 = (.ireturn, 37, 0, 0, 0, 0, []) := rfl
def ltX0_tellWaiting : List (Nat × pm_E) := [(0, .iload_n 1, 1, 0, 0, 0, 0, []), (1, .ifCond .ge 5, 4, 6, 0, 0, 0, []), (4, .iconst (-1), 5, 0, 0, 0, -1, []), (5, .ireturn, 6, 0, 0, 0, 0, []), (6, .aload_n 0, 7, 0, 0, 0, 0, []), (7, .getfield 32, 10, 0, 10, 0, 0, [(0, 0)]), (10, .iload_n 1, 11, 0, 0, 0, 0, []), (11, .invokevirtual 163, 14, 60, 1, 5, 0, []), (14, .istore_n 2, 15, 0, 0, 0, 0, []), (15, .iload_n 2, 16, 0, 0, 0, 0, []), (16, .iconst (-1), 17, 0, 0, 0, -1, []), (17, .if_icmp .ne 8, 20, 25, 0, 0, 0, []), (20, .bipush (-4), 22, 0, 0, 0, -4, []), (22, .goto 4, 25, 26, 0, 0, 0, []), (25, .iload_n 2, 26, 0, 0, 0, 0, []), (26, .ireturn, 27, 0, 0, 0, 0, [])]
def tbX0_tellWaiting : Nat → pm_E := pm_lk ltX0_tellWaiting
theorem okX0_tellWaiting : ∀ pc, (tbX0_tellWaiting pc).1 = .nop ∨ pm_ok mX0_tellWaiting pw_Ms pc (tbX0_tellWaiting pc) := pm_lk_ok (by decide +kernel)
theorem nr_X0_tellWaiting : mX0_tellWaiting.2.2.2 = (some .int) := rfl
theorem tX0_tellWaiting_0 : tbX0_tellWaiting 0 = (.iload_n 1, 1, 0, 0, 0, 0, []) := rfl
theorem tX0_tellWaiting_1 : tbX0_tellWaiting 1 = (.ifCond .ge 5, 4, 6, 0, 0, 0, []) := rfl
theorem tX0_tellWaiting_4 : tbX0_tellWaiting 4 = (.iconst (-1), 5, 0, 0, 0, -1, []) := rfl
theorem tX0_tellWaiting_5 : tbX0_tellWaiting 5 = (.ireturn, 6, 0, 0, 0, 0, []) := rfl
theorem tX0_tellWaiting_6 : tbX0_tellWaiting 6 = (.aload_n 0, 7, 0, 0, 0, 0, []) := rfl
theorem tX0_tellWaiting_7 : tbX0_tellWaiting 7 = (.getfield 32, 10, 0, 10, 0, 0, [(0, 0)]) := rfl
theorem tX0_tellWaiting_10 : tbX0_tellWaiting 10 = (.iload_n 1, 11, 0, 0, 0, 0, []) := rfl
theorem tX0_tellWaiting_11 : tbX0_tellWaiting 11 = (.invokevirtual 163, 14, 60, 1, 5, 0, []) := rfl
theorem tX0_tellWaiting_14 : tbX0_tellWaiting 14 = (.istore_n 2, 15, 0, 0, 0, 0, []) := rfl
theorem tX0_tellWaiting_15 : tbX0_tellWaiting 15 = (.iload_n 2, 16, 0, 0, 0, 0, []) := rfl
theorem tX0_tellWaiting_16 : tbX0_tellWaiting 16 = (.iconst (-1), 17, 0, 0, 0, -1, []) := rfl
theorem tX0_tellWaiting_17 : tbX0_tellWaiting 17 = (.if_icmp .ne 8, 20, 25, 0, 0, 0, []) := rfl
theorem tX0_tellWaiting_20 : tbX0_tellWaiting 20 = (.bipush (-4), 22, 0, 0, 0, -4, []) := rfl
theorem tX0_tellWaiting_22 : tbX0_tellWaiting 22 = (.goto 4, 25, 26, 0, 0, 0, []) := rfl
theorem tX0_tellWaiting_25 : tbX0_tellWaiting 25 = (.iload_n 2, 26, 0, 0, 0, 0, []) := rfl
theorem tX0_tellWaiting_26 : tbX0_tellWaiting 26 = (.ireturn, 27, 0, 0, 0, 0, []) := rfl
def ltX0_tellNumber : List (Nat × pm_E) := [(0, .iload_n 1, 1, 0, 0, 0, 0, []), (1, .tableswitch 124 0 10 #[59, 64, 69, 74, 79, 84, 97, 103, 109, 114, 119], 60, 125, 0, 0, 0, [(0, 60), (1, 65), (2, 70), (3, 75), (4, 80), (5, 85), (6, 98), (7, 104), (8, 110), (9, 115), (10, 120)]), (60, .aload_n 0, 61, 0, 0, 0, 0, []), (61, .getfield 46, 64, 0, 2, 0, 0, []), (64, .ireturn, 65, 0, 0, 0, 0, []), (65, .aload_n 0, 66, 0, 0, 0, 0, []), (66, .getfield 59, 69, 0, 3, 0, 0, []), (69, .ireturn, 70, 0, 0, 0, 0, []), (70, .aload_n 0, 71, 0, 0, 0, 0, []), (71, .getfield 65, 74, 0, 5, 0, 0, []), (74, .ireturn, 75, 0, 0, 0, 0, []), (75, .aload_n 0, 76, 0, 0, 0, 0, []), (76, .invokevirtual 196, 79, 36, 0, 0, 0, []), (79, .ireturn, 80, 0, 0, 0, 0, []), (80, .aload_n 0, 81, 0, 0, 0, 0, []), (81, .invokevirtual 199, 84, 37, 0, 0, 0, []), (84, .ireturn, 85, 0, 0, 0, 0, []), (85, .aload_n 0, 86, 0, 0, 0, 0, []), (86, .invokevirtual 138, 89, 23, 0, 0, 0, []), (89, .aload_n 0, 90, 0, 0, 0, 0, []), (90, .invokevirtual 202, 93, 29, 0, 0, 0, []), (93, .iand, 94, 0, 0, 0, 0, []), (94, .invokestatic 117, 97, 156, 1, 0, 0, []), (97, .ireturn, 98, 0, 0, 0, 0, []), (98, .aload_n 0, 99, 0, 0, 0, 0, []), (99, .iconst 0, 100, 0, 0, 0, 0, []), (100, .invokevirtual 205, 103, 38, 1, 0, 0, []), (103, .ireturn, 104, 0, 0, 0, 0, []), (104, .aload_n 0, 105, 0, 0, 0, 0, []), (105, .iconst 1, 106, 0, 0, 0, 1, []), (106, .invokevirtual 205, 109, 38, 1, 0, 0, []), (109, .ireturn, 110, 0, 0, 0, 0, []), (110, .aload_n 0, 111, 0, 0, 0, 0, []), (111, .getfield 68, 114, 0, 6, 0, 0, []), (114, .ireturn, 115, 0, 0, 0, 0, []), (115, .aload_n 0, 116, 0, 0, 0, 0, []), (116, .getfield 49, 119, 0, 7, 0, 0, []), (119, .ireturn, 120, 0, 0, 0, 0, []), (120, .aload_n 0, 121, 0, 0, 0, 0, []), (121, .getfield 71, 124, 0, 8, 0, 0, []), (124, .ireturn, 125, 0, 0, 0, 0, []), (125, .iconst (-1), 126, 0, 0, 0, -1, []), (126, .ireturn, 127, 0, 0, 0, 0, [])]
def tbX0_tellNumber : Nat → pm_E := pm_lk ltX0_tellNumber
theorem okX0_tellNumber : ∀ pc, (tbX0_tellNumber pc).1 = .nop ∨ pm_ok mX0_tellNumber pw_Ms pc (tbX0_tellNumber pc) := pm_lk_ok (by decide +kernel)
theorem nr_X0_tellNumber : mX0_tellNumber.2.2.2 = (some .int) := rfl
theorem tX0_tellNumber_0 : tbX0_tellNumber 0 = (.iload_n 1, 1, 0, 0, 0, 0, []) := rfl
theorem tX0_tellNumber_1 : tbX0_tellNumber 1 = (.tableswitch 124 0 10 #[59, 64, 69, 74, 79, 84, 97, 103, 109, 114, 119], 60, 125, 0, 0, 0, [(0, 60), (1, 65), (2, 70), (3, 75), (4, 80), (5, 85), (6, 98), (7, 104), (8, 110), (9, 115), (10, 120)]) := rfl
theorem tX0_tellNumber_60 : tbX0_tellNumber 60 = (.aload_n 0, 61, 0, 0, 0, 0, []) := rfl
theorem tX0_tellNumber_61 : tbX0_tellNumber 61 = (.getfield 46, 64, 0, 2, 0, 0, []) := rfl
theorem tX0_tellNumber_64 : tbX0_tellNumber 64 = (.ireturn, 65, 0, 0, 0, 0, []) := rfl
theorem tX0_tellNumber_65 : tbX0_tellNumber 65 = (.aload_n 0, 66, 0, 0, 0, 0, []) := rfl
theorem tX0_tellNumber_66 : tbX0_tellNumber 66 = (.getfield 59, 69, 0, 3, 0, 0, []) := rfl
theorem tX0_tellNumber_69 : tbX0_tellNumber 69 = (.ireturn, 70, 0, 0, 0, 0, []) := rfl
theorem tX0_tellNumber_70 : tbX0_tellNumber 70 = (.aload_n 0, 71, 0, 0, 0, 0, []) := rfl
theorem tX0_tellNumber_71 : tbX0_tellNumber 71 = (.getfield 65, 74, 0, 5, 0, 0, []) := rfl
theorem tX0_tellNumber_74 : tbX0_tellNumber 74 = (.ireturn, 75, 0, 0, 0, 0, []) := rfl
theorem tX0_tellNumber_75 : tbX0_tellNumber 75 = (.aload_n 0, 76, 0, 0, 0, 0, []) := rfl
theorem tX0_tellNumber_76 : tbX0_tellNumber 76 = (.invokevirtual 196, 79, 36, 0, 0, 0, []) := rfl
theorem tX0_tellNumber_79 : tbX0_tellNumber 79 = (.ireturn, 80, 0, 0, 0, 0, []) := rfl
theorem tX0_tellNumber_80 : tbX0_tellNumber 80 = (.aload_n 0, 81, 0, 0, 0, 0, []) := rfl
theorem tX0_tellNumber_81 : tbX0_tellNumber 81 = (.invokevirtual 199, 84, 37, 0, 0, 0, []) := rfl
theorem tX0_tellNumber_84 : tbX0_tellNumber 84 = (.ireturn, 85, 0, 0, 0, 0, []) := rfl
theorem tX0_tellNumber_85 : tbX0_tellNumber 85 = (.aload_n 0, 86, 0, 0, 0, 0, []) := rfl
theorem tX0_tellNumber_86 : tbX0_tellNumber 86 = (.invokevirtual 138, 89, 23, 0, 0, 0, []) := rfl
theorem tX0_tellNumber_89 : tbX0_tellNumber 89 = (.aload_n 0, 90, 0, 0, 0, 0, []) := rfl
theorem tX0_tellNumber_90 : tbX0_tellNumber 90 = (.invokevirtual 202, 93, 29, 0, 0, 0, []) := rfl
theorem tX0_tellNumber_93 : tbX0_tellNumber 93 = (.iand, 94, 0, 0, 0, 0, []) := rfl
theorem tX0_tellNumber_94 : tbX0_tellNumber 94 = (.invokestatic 117, 97, 156, 1, 0, 0, []) := rfl
theorem tX0_tellNumber_97 : tbX0_tellNumber 97 = (.ireturn, 98, 0, 0, 0, 0, []) := rfl
theorem tX0_tellNumber_98 : tbX0_tellNumber 98 = (.aload_n 0, 99, 0, 0, 0, 0, []) := rfl
theorem tX0_tellNumber_99 : tbX0_tellNumber 99 = (.iconst 0, 100, 0, 0, 0, 0, []) := rfl
theorem tX0_tellNumber_100 : tbX0_tellNumber 100 = (.invokevirtual 205, 103, 38, 1, 0, 0, []) := rfl
theorem tX0_tellNumber_103 : tbX0_tellNumber 103 = (.ireturn, 104, 0, 0, 0, 0, []) := rfl
theorem tX0_tellNumber_104 : tbX0_tellNumber 104 = (.aload_n 0, 105, 0, 0, 0, 0, []) := rfl
theorem tX0_tellNumber_105 : tbX0_tellNumber 105 = (.iconst 1, 106, 0, 0, 0, 1, []) := rfl
theorem tX0_tellNumber_106 : tbX0_tellNumber 106 = (.invokevirtual 205, 109, 38, 1, 0, 0, []) := rfl
theorem tX0_tellNumber_109 : tbX0_tellNumber 109 = (.ireturn, 110, 0, 0, 0, 0, []) := rfl
theorem tX0_tellNumber_110 : tbX0_tellNumber 110 = (.aload_n 0, 111, 0, 0, 0, 0, []) := rfl
theorem tX0_tellNumber_111 : tbX0_tellNumber 111 = (.getfield 68, 114, 0, 6, 0, 0, []) := rfl
theorem tX0_tellNumber_114 : tbX0_tellNumber 114 = (.ireturn, 115, 0, 0, 0, 0, []) := rfl
theorem tX0_tellNumber_115 : tbX0_tellNumber 115 = (.aload_n 0, 116, 0, 0, 0, 0, []) := rfl
theorem tX0_tellNumber_116 : tbX0_tellNumber 116 = (.getfield 49, 119, 0, 7, 0, 0, []) := rfl
theorem tX0_tellNumber_119 : tbX0_tellNumber 119 = (.ireturn, 120, 0, 0, 0, 0, []) := rfl
theorem tX0_tellNumber_120 : tbX0_tellNumber 120 = (.aload_n 0, 121, 0, 0, 0, 0, []) := rfl
theorem tX0_tellNumber_121 : tbX0_tellNumber 121 = (.getfield 71, 124, 0, 8, 0, 0, []) := rfl
theorem tX0_tellNumber_124 : tbX0_tellNumber 124 = (.ireturn, 125, 0, 0, 0, 0, []) := rfl
theorem tX0_tellNumber_125 : tbX0_tellNumber 125 = (.iconst (-1), 126, 0, 0, 0, -1, []) := rfl
theorem tX0_tellNumber_126 : tbX0_tellNumber 126 = (.ireturn, 127, 0, 0, 0, 0, []) := rfl
def ltX0_allEdges : List (Nat × pm_E) := [(0, .iconst 0, 1, 0, 0, 0, 0, []), (1, .istore_n 1, 2, 0, 0, 0, 0, []), (2, .iconst 0, 3, 0, 0, 0, 0, []), (3, .istore_n 2, 4, 0, 0, 0, 0, []), (4, .iload_n 2, 5, 0, 0, 0, 0, []), (5, .aload_n 0, 6, 0, 0, 0, 0, []), (6, .getfield 59, 9, 0, 3, 0, 0, []), (9, .if_icmp .ge 21, 12, 30, 0, 0, 0, []), (12, .iload_n 1, 13, 0, 0, 0, 0, []), (13, .aload_n 0, 14, 0, 0, 0, 0, []), (14, .getfield 20, 17, 0, 1, 0, 0, [(0, 0)]), (17, .iload_n 2, 18, 0, 0, 0, 0, []), (18, .aaload, 19, 0, 0, 0, 0, []), (19, .getfield 126, 22, 3, 6, 0, 0, []), (22, .iadd, 23, 0, 0, 0, 0, []), (23, .istore_n 1, 24, 0, 0, 0, 0, []), (24, .iinc 2 1, 27, 0, 0, 0, 1, []), (27, .goto (-23), 30, 4, 0, 0, 0, []), (30, .iload_n 1, 31, 0, 0, 0, 0, []), (31, .ireturn, 32, 0, 0, 0, 0, [])]
def tbX0_allEdges : Nat → pm_E := pm_lk ltX0_allEdges
theorem okX0_allEdges : ∀ pc, (tbX0_allEdges pc).1 = .nop ∨ pm_ok mX0_allEdges pw_Ms pc (tbX0_allEdges pc) := pm_lk_ok (by decide +kernel)
theorem nr_X0_allEdges : mX0_allEdges.2.2.2 = (some .int) := rfl
theorem tX0_allEdges_0 : tbX0_allEdges 0 = (.iconst 0, 1, 0, 0, 0, 0, []) := rfl
theorem tX0_allEdges_1 : tbX0_allEdges 1 = (.istore_n 1, 2, 0, 0, 0, 0, []) := rfl
theorem tX0_allEdges_2 : tbX0_allEdges 2 = (.iconst 0, 3, 0, 0, 0, 0, []) := rfl
theorem tX0_allEdges_3 : tbX0_allEdges 3 = (.istore_n 2, 4, 0, 0, 0, 0, []) := rfl
theorem tX0_allEdges_4 : tbX0_allEdges 4 = (.iload_n 2, 5, 0, 0, 0, 0, []) := rfl
theorem tX0_allEdges_5 : tbX0_allEdges 5 = (.aload_n 0, 6, 0, 0, 0, 0, []) := rfl
theorem tX0_allEdges_6 : tbX0_allEdges 6 = (.getfield 59, 9, 0, 3, 0, 0, []) := rfl
theorem tX0_allEdges_9 : tbX0_allEdges 9 = (.if_icmp .ge 21, 12, 30, 0, 0, 0, []) := rfl
theorem tX0_allEdges_12 : tbX0_allEdges 12 = (.iload_n 1, 13, 0, 0, 0, 0, []) := rfl
theorem tX0_allEdges_13 : tbX0_allEdges 13 = (.aload_n 0, 14, 0, 0, 0, 0, []) := rfl
theorem tX0_allEdges_14 : tbX0_allEdges 14 = (.getfield 20, 17, 0, 1, 0, 0, [(0, 0)]) := rfl
theorem tX0_allEdges_17 : tbX0_allEdges 17 = (.iload_n 2, 18, 0, 0, 0, 0, []) := rfl
theorem tX0_allEdges_18 : tbX0_allEdges 18 = (.aaload, 19, 0, 0, 0, 0, []) := rfl
theorem tX0_allEdges_19 : tbX0_allEdges 19 = (.getfield 126, 22, 3, 6, 0, 0, []) := rfl
theorem tX0_allEdges_22 : tbX0_allEdges 22 = (.iadd, 23, 0, 0, 0, 0, []) := rfl
theorem tX0_allEdges_23 : tbX0_allEdges 23 = (.istore_n 1, 24, 0, 0, 0, 0, []) := rfl
theorem tX0_allEdges_24 : tbX0_allEdges 24 = (.iinc 2 1, 27, 0, 0, 0, 1, []) := rfl
theorem tX0_allEdges_27 : tbX0_allEdges 27 = (.goto (-23), 30, 4, 0, 0, 0, []) := rfl
theorem tX0_allEdges_30 : tbX0_allEdges 30 = (.iload_n 1, 31, 0, 0, 0, 0, []) := rfl
theorem tX0_allEdges_31 : tbX0_allEdges 31 = (.ireturn, 32, 0, 0, 0, 0, []) := rfl
def ltX0_allLost : List (Nat × pm_E) := [(0, .iconst 0, 1, 0, 0, 0, 0, []), (1, .istore_n 1, 2, 0, 0, 0, 0, []), (2, .iconst 0, 3, 0, 0, 0, 0, []), (3, .istore_n 2, 4, 0, 0, 0, 0, []), (4, .iload_n 2, 5, 0, 0, 0, 0, []), (5, .aload_n 0, 6, 0, 0, 0, 0, []), (6, .getfield 59, 9, 0, 3, 0, 0, []), (9, .if_icmp .ge 21, 12, 30, 0, 0, 0, []), (12, .iload_n 1, 13, 0, 0, 0, 0, []), (13, .aload_n 0, 14, 0, 0, 0, 0, []), (14, .getfield 20, 17, 0, 1, 0, 0, [(0, 0)]), (17, .iload_n 2, 18, 0, 0, 0, 0, []), (18, .aaload, 19, 0, 0, 0, 0, []), (19, .getfield 132, 22, 3, 7, 0, 0, []), (22, .iadd, 23, 0, 0, 0, 0, []), (23, .istore_n 1, 24, 0, 0, 0, 0, []), (24, .iinc 2 1, 27, 0, 0, 0, 1, []), (27, .goto (-23), 30, 4, 0, 0, 0, []), (30, .iload_n 1, 31, 0, 0, 0, 0, []), (31, .ireturn, 32, 0, 0, 0, 0, [])]
def tbX0_allLost : Nat → pm_E := pm_lk ltX0_allLost
theorem okX0_allLost : ∀ pc, (tbX0_allLost pc).1 = .nop ∨ pm_ok mX0_allLost pw_Ms pc (tbX0_allLost pc) := pm_lk_ok (by decide +kernel)
theorem nr_X0_allLost : mX0_allLost.2.2.2 = (some .int) := rfl
theorem tX0_allLost_0 : tbX0_allLost 0 = (.iconst 0, 1, 0, 0, 0, 0, []) := rfl
theorem tX0_allLost_1 : tbX0_allLost 1 = (.istore_n 1, 2, 0, 0, 0, 0, []) := rfl
theorem tX0_allLost_2 : tbX0_allLost 2 = (.iconst 0, 3, 0, 0, 0, 0, []) := rfl
theorem tX0_allLost_3 : tbX0_allLost 3 = (.istore_n 2, 4, 0, 0, 0, 0, []) := rfl
theorem tX0_allLost_4 : tbX0_allLost 4 = (.iload_n 2, 5, 0, 0, 0, 0, []) := rfl
theorem tX0_allLost_5 : tbX0_allLost 5 = (.aload_n 0, 6, 0, 0, 0, 0, []) := rfl
theorem tX0_allLost_6 : tbX0_allLost 6 = (.getfield 59, 9, 0, 3, 0, 0, []) := rfl
theorem tX0_allLost_9 : tbX0_allLost 9 = (.if_icmp .ge 21, 12, 30, 0, 0, 0, []) := rfl
theorem tX0_allLost_12 : tbX0_allLost 12 = (.iload_n 1, 13, 0, 0, 0, 0, []) := rfl
theorem tX0_allLost_13 : tbX0_allLost 13 = (.aload_n 0, 14, 0, 0, 0, 0, []) := rfl
theorem tX0_allLost_14 : tbX0_allLost 14 = (.getfield 20, 17, 0, 1, 0, 0, [(0, 0)]) := rfl
theorem tX0_allLost_17 : tbX0_allLost 17 = (.iload_n 2, 18, 0, 0, 0, 0, []) := rfl
theorem tX0_allLost_18 : tbX0_allLost 18 = (.aaload, 19, 0, 0, 0, 0, []) := rfl
theorem tX0_allLost_19 : tbX0_allLost 19 = (.getfield 132, 22, 3, 7, 0, 0, []) := rfl
theorem tX0_allLost_22 : tbX0_allLost 22 = (.iadd, 23, 0, 0, 0, 0, []) := rfl
theorem tX0_allLost_23 : tbX0_allLost 23 = (.istore_n 1, 24, 0, 0, 0, 0, []) := rfl
theorem tX0_allLost_24 : tbX0_allLost 24 = (.iinc 2 1, 27, 0, 0, 0, 1, []) := rfl
theorem tX0_allLost_27 : tbX0_allLost 27 = (.goto (-23), 30, 4, 0, 0, 0, []) := rfl
theorem tX0_allLost_30 : tbX0_allLost 30 = (.iload_n 1, 31, 0, 0, 0, 0, []) := rfl
theorem tX0_allLost_31 : tbX0_allLost 31 = (.ireturn, 32, 0, 0, 0, 0, []) := rfl
def ltX0_allTaken : List (Nat × pm_E) := [(0, .iconst 0, 1, 0, 0, 0, 0, []), (1, .istore_n 2, 2, 0, 0, 0, 0, []), (2, .iconst 0, 3, 0, 0, 0, 0, []), (3, .istore_n 3, 4, 0, 0, 0, 0, []), (4, .iload_n 3, 5, 0, 0, 0, 0, []), (5, .aload_n 0, 6, 0, 0, 0, 0, []), (6, .getfield 59, 9, 0, 3, 0, 0, []), (9, .if_icmp .ge 34, 12, 43, 0, 0, 0, []), (12, .aload_n 0, 13, 0, 0, 0, 0, []), (13, .getfield 20, 16, 0, 1, 0, 0, [(0, 0)]), (16, .iload_n 3, 17, 0, 0, 0, 0, []), (17, .aaload, 18, 0, 0, 0, 0, []), (18, .getfield 104, 21, 3, 2, 0, 0, []), (21, .iload_n 1, 22, 0, 0, 0, 0, []), (22, .if_icmp .ne 15, 25, 37, 0, 0, 0, []), (25, .iload_n 2, 26, 0, 0, 0, 0, []), (26, .aload_n 0, 27, 0, 0, 0, 0, []), (27, .getfield 20, 30, 0, 1, 0, 0, [(0, 0)]), (30, .iload_n 3, 31, 0, 0, 0, 0, []), (31, .aaload, 32, 0, 0, 0, 0, []), (32, .getfield 147, 35, 3, 8, 0, 0, []), (35, .iadd, 36, 0, 0, 0, 0, []), (36, .istore_n 2, 37, 0, 0, 0, 0, []), (37, .iinc 3 1, 40, 0, 0, 0, 1, []), (40, .goto (-36), 43, 4, 0, 0, 0, []), (43, .iload_n 2, 44, 0, 0, 0, 0, []), (44, .ireturn, 45, 0, 0, 0, 0, [])]
def tbX0_allTaken : Nat → pm_E := pm_lk ltX0_allTaken
theorem okX0_allTaken : ∀ pc, (tbX0_allTaken pc).1 = .nop ∨ pm_ok mX0_allTaken pw_Ms pc (tbX0_allTaken pc) := pm_lk_ok (by decide +kernel)
theorem nr_X0_allTaken : mX0_allTaken.2.2.2 = (some .int) := rfl
theorem tX0_allTaken_0 : tbX0_allTaken 0 = (.iconst 0, 1, 0, 0, 0, 0, []) := rfl
theorem tX0_allTaken_1 : tbX0_allTaken 1 = (.istore_n 2, 2, 0, 0, 0, 0, []) := rfl
theorem tX0_allTaken_2 : tbX0_allTaken 2 = (.iconst 0, 3, 0, 0, 0, 0, []) := rfl
theorem tX0_allTaken_3 : tbX0_allTaken 3 = (.istore_n 3, 4, 0, 0, 0, 0, []) := rfl
theorem tX0_allTaken_4 : tbX0_allTaken 4 = (.iload_n 3, 5, 0, 0, 0, 0, []) := rfl
theorem tX0_allTaken_5 : tbX0_allTaken 5 = (.aload_n 0, 6, 0, 0, 0, 0, []) := rfl
theorem tX0_allTaken_6 : tbX0_allTaken 6 = (.getfield 59, 9, 0, 3, 0, 0, []) := rfl
theorem tX0_allTaken_9 : tbX0_allTaken 9 = (.if_icmp .ge 34, 12, 43, 0, 0, 0, []) := rfl
theorem tX0_allTaken_12 : tbX0_allTaken 12 = (.aload_n 0, 13, 0, 0, 0, 0, []) := rfl
theorem tX0_allTaken_13 : tbX0_allTaken 13 = (.getfield 20, 16, 0, 1, 0, 0, [(0, 0)]) := rfl
theorem tX0_allTaken_16 : tbX0_allTaken 16 = (.iload_n 3, 17, 0, 0, 0, 0, []) := rfl
theorem tX0_allTaken_17 : tbX0_allTaken 17 = (.aaload, 18, 0, 0, 0, 0, []) := rfl
theorem tX0_allTaken_18 : tbX0_allTaken 18 = (.getfield 104, 21, 3, 2, 0, 0, []) := rfl
theorem tX0_allTaken_21 : tbX0_allTaken 21 = (.iload_n 1, 22, 0, 0, 0, 0, []) := rfl
theorem tX0_allTaken_22 : tbX0_allTaken 22 = (.if_icmp .ne 15, 25, 37, 0, 0, 0, []) := rfl
theorem tX0_allTaken_25 : tbX0_allTaken 25 = (.iload_n 2, 26, 0, 0, 0, 0, []) := rfl
theorem tX0_allTaken_26 : tbX0_allTaken 26 = (.aload_n 0, 27, 0, 0, 0, 0, []) := rfl
theorem tX0_allTaken_27 : tbX0_allTaken 27 = (.getfield 20, 30, 0, 1, 0, 0, [(0, 0)]) := rfl
theorem tX0_allTaken_30 : tbX0_allTaken 30 = (.iload_n 3, 31, 0, 0, 0, 0, []) := rfl
theorem tX0_allTaken_31 : tbX0_allTaken 31 = (.aaload, 32, 0, 0, 0, 0, []) := rfl
theorem tX0_allTaken_32 : tbX0_allTaken 32 = (.getfield 147, 35, 3, 8, 0, 0, []) := rfl
theorem tX0_allTaken_35 : tbX0_allTaken 35 = (.iadd, 36, 0, 0, 0, 0, []) := rfl
theorem tX0_allTaken_36 : tbX0_allTaken 36 = (.istore_n 2, 37, 0, 0, 0, 0, []) := rfl
theorem tX0_allTaken_37 : tbX0_allTaken 37 = (.iinc 3 1, 40, 0, 0, 0, 1, []) := rfl
theorem tX0_allTaken_40 : tbX0_allTaken 40 = (.goto (-36), 43, 4, 0, 0, 0, []) := rfl
theorem tX0_allTaken_43 : tbX0_allTaken 43 = (.iload_n 2, 44, 0, 0, 0, 0, []) := rfl
theorem tX0_allTaken_44 : tbX0_allTaken 44 = (.ireturn, 45, 0, 0, 0, 0, []) := rfl
end
section
/-! code tables 1, by program -/
def ltX1_init : List (Nat × pm_E) := [(0, .aload_n 0, 1, 0, 0, 0, 0, []), (4, .aload_n 0, 5, 0, 0, 0, 0, []), (5, .bipush 60, 7, 0, 0, 0, 60, []), (12, .return_, 13, 0, 0, 0, 0, [])]
def tbX1_init : Nat → pm_E := pm_lk ltX1_init
theorem okX1_init : ∀ pc, (tbX1_init pc).1 = .nop ∨ pm_ok mX1_init pw_Ms pc (tbX1_init pc) := pm_lk_ok (by decide +kernel)
theorem nr_X1_init : mX1_init.2.2.2 = none := rfl
theorem tX1_init_0 : tbX1_init 0 = (.aload_n 0, 1, 0, 0, 0, 0, []) := rfl
theorem tX1_init_4 : tbX1_init 4 = (.aload_n 0, 5, 0, 0, 0, 0, []) := rfl
theorem tX1_init_5 : tbX1_init 5 = (.bipush 60, 7, 0, 0, 0, 60, []) := rfl
theorem tX1_init_12 : tbX1_init 12 = (.return_, 13, 0, 0, 0, 0, []) := rfl
def ltX1_append : List (Nat × pm_E) := [(0, .iload_n 1, 1, 0, 0, 0, 0, []), (1, .bipush 32, 3, 0, 0, 0, 32, []), (3, .if_icmp .lt 9, 6, 12, 0, 0, 0, []), (6, .iload_n 1, 7, 0, 0, 0, 0, []), (7, .bipush 126, 9, 0, 0, 0, 126, []), (9, .if_icmp .le 5, 12, 14, 0, 0, 0, []), (12, .iconst (-1), 13, 0, 0, 0, -1, []), (13, .ireturn, 14, 0, 0, 0, 0, []), (14, .aload_n 0, 15, 0, 0, 0, 0, []), (15, .getfield 15, 18, 1, 1, 0, 0, []), (18, .bipush 60, 20, 0, 0, 0, 60, []), (20, .if_icmp .lt 6, 23, 26, 0, 0, 0, []), (23, .bipush (-3), 25, 0, 0, 0, -3, []), (25, .ireturn, 26, 0, 0, 0, 0, []), (26, .aload_n 0, 27, 0, 0, 0, 0, []), (27, .getfield 9, 30, 1, 0, 0, 0, [(0, 0)]), (30, .aload_n 0, 31, 0, 0, 0, 0, []), (31, .getfield 15, 34, 1, 1, 0, 0, []), (34, .iload_n 1, 35, 0, 0, 0, 0, []), (35, .i2c, 36, 0, 0, 0, 0, []), (36, .castore, 37, 0, 0, 0, 0, []), (37, .aload_n 0, 38, 0, 0, 0, 0, []), (38, .dup, 39, 0, 0, 0, 0, []), (39, .getfield 15, 42, 1, 1, 0, 0, []), (42, .iconst 1, 43, 0, 0, 0, 1, []), (43, .iadd, 44, 0, 0, 0, 0, []), (44, .putfield 15, 47, 1, 1, 0, 0, []), (47, .aload_n 0, 48, 0, 0, 0, 0, []), (48, .getfield 15, 51, 1, 1, 0, 0, []), (51, .ireturn, 52, 0, 0, 0, 0, [])]
def tbX1_append : Nat → pm_E := pm_lk ltX1_append
theorem okX1_append : ∀ pc, (tbX1_append pc).1 = .nop ∨ pm_ok mX1_append pw_Ms pc (tbX1_append pc) := pm_lk_ok (by decide +kernel)
theorem nr_X1_append : mX1_append.2.2.2 = (some .int) := rfl
theorem tX1_append_0 : tbX1_append 0 = (.iload_n 1, 1, 0, 0, 0, 0, []) := rfl
theorem tX1_append_1 : tbX1_append 1 = (.bipush 32, 3, 0, 0, 0, 32, []) := rfl
theorem tX1_append_3 : tbX1_append 3 = (.if_icmp .lt 9, 6, 12, 0, 0, 0, []) := rfl
theorem tX1_append_6 : tbX1_append 6 = (.iload_n 1, 7, 0, 0, 0, 0, []) := rfl
theorem tX1_append_7 : tbX1_append 7 = (.bipush 126, 9, 0, 0, 0, 126, []) := rfl
theorem tX1_append_9 : tbX1_append 9 = (.if_icmp .le 5, 12, 14, 0, 0, 0, []) := rfl
theorem tX1_append_12 : tbX1_append 12 = (.iconst (-1), 13, 0, 0, 0, -1, []) := rfl
theorem tX1_append_13 : tbX1_append 13 = (.ireturn, 14, 0, 0, 0, 0, []) := rfl
theorem tX1_append_14 : tbX1_append 14 = (.aload_n 0, 15, 0, 0, 0, 0, []) := rfl
theorem tX1_append_15 : tbX1_append 15 = (.getfield 15, 18, 1, 1, 0, 0, []) := rfl
theorem tX1_append_18 : tbX1_append 18 = (.bipush 60, 20, 0, 0, 0, 60, []) := rfl
theorem tX1_append_20 : tbX1_append 20 = (.if_icmp .lt 6, 23, 26, 0, 0, 0, []) := rfl
theorem tX1_append_23 : tbX1_append 23 = (.bipush (-3), 25, 0, 0, 0, -3, []) := rfl
theorem tX1_append_25 : tbX1_append 25 = (.ireturn, 26, 0, 0, 0, 0, []) := rfl
theorem tX1_append_26 : tbX1_append 26 = (.aload_n 0, 27, 0, 0, 0, 0, []) := rfl
theorem tX1_append_27 : tbX1_append 27 = (.getfield 9, 30, 1, 0, 0, 0, [(0, 0)]) := rfl
theorem tX1_append_30 : tbX1_append 30 = (.aload_n 0, 31, 0, 0, 0, 0, []) := rfl
theorem tX1_append_31 : tbX1_append 31 = (.getfield 15, 34, 1, 1, 0, 0, []) := rfl
theorem tX1_append_34 : tbX1_append 34 = (.iload_n 1, 35, 0, 0, 0, 0, []) := rfl
theorem tX1_append_35 : tbX1_append 35 = (.i2c, 36, 0, 0, 0, 0, []) := rfl
theorem tX1_append_36 : tbX1_append 36 = (.castore, 37, 0, 0, 0, 0, []) := rfl
theorem tX1_append_37 : tbX1_append 37 = (.aload_n 0, 38, 0, 0, 0, 0, []) := rfl
theorem tX1_append_38 : tbX1_append 38 = (.dup, 39, 0, 0, 0, 0, []) := rfl
theorem tX1_append_39 : tbX1_append 39 = (.getfield 15, 42, 1, 1, 0, 0, []) := rfl
theorem tX1_append_42 : tbX1_append 42 = (.iconst 1, 43, 0, 0, 0, 1, []) := rfl
theorem tX1_append_43 : tbX1_append 43 = (.iadd, 44, 0, 0, 0, 0, []) := rfl
theorem tX1_append_44 : tbX1_append 44 = (.putfield 15, 47, 1, 1, 0, 0, []) := rfl
theorem tX1_append_47 : tbX1_append 47 = (.aload_n 0, 48, 0, 0, 0, 0, []) := rfl
theorem tX1_append_48 : tbX1_append 48 = (.getfield 15, 51, 1, 1, 0, 0, []) := rfl
theorem tX1_append_51 : tbX1_append 51 = (.ireturn, 52, 0, 0, 0, 0, []) := rfl
def ltX1_makeEmpty : List (Nat × pm_E) := [(0, .aload_n 0, 1, 0, 0, 0, 0, []), (1, .getfield 15, 4, 1, 1, 0, 0, []), (4, .istore_n 1, 5, 0, 0, 0, 0, []), (5, .aload_n 0, 6, 0, 0, 0, 0, []), (6, .iconst 0, 7, 0, 0, 0, 0, []), (7, .putfield 15, 10, 1, 1, 0, 0, []), (10, .iload_n 1, 11, 0, 0, 0, 0, []), (11, .ireturn, 12, 0, 0, 0, 0, [])]
def tbX1_makeEmpty : Nat → pm_E := pm_lk ltX1_makeEmpty
theorem okX1_makeEmpty : ∀ pc, (tbX1_makeEmpty pc).1 = .nop ∨ pm_ok mX1_makeEmpty pw_Ms pc (tbX1_makeEmpty pc) := pm_lk_ok (by decide +kernel)
theorem nr_X1_makeEmpty : mX1_makeEmpty.2.2.2 = (some .int) := rfl
theorem tX1_makeEmpty_0 : tbX1_makeEmpty 0 = (.aload_n 0, 1, 0, 0, 0, 0, []) := rfl
theorem tX1_makeEmpty_1 : tbX1_makeEmpty 1 = (.getfield 15, 4, 1, 1, 0, 0, []) := rfl
theorem tX1_makeEmpty_4 : tbX1_makeEmpty 4 = (.istore_n 1, 5, 0, 0, 0, 0, []) := rfl
theorem tX1_makeEmpty_5 : tbX1_makeEmpty 5 = (.aload_n 0, 6, 0, 0, 0, 0, []) := rfl
theorem tX1_makeEmpty_6 : tbX1_makeEmpty 6 = (.iconst 0, 7, 0, 0, 0, 0, []) := rfl
theorem tX1_makeEmpty_7 : tbX1_makeEmpty 7 = (.putfield 15, 10, 1, 1, 0, 0, []) := rfl
theorem tX1_makeEmpty_10 : tbX1_makeEmpty 10 = (.iload_n 1, 11, 0, 0, 0, 0, []) := rfl
theorem tX1_makeEmpty_11 : tbX1_makeEmpty 11 = (.ireturn, 12, 0, 0, 0, 0, []) := rfl
def ltX1_runOn : List (Nat × pm_E) := [(0, .aload_n 0, 1, 0, 0, 0, 0, []), (1, .iconst 0, 2, 0, 0, 0, 0, []), (2, .putfield 19, 5, 1, 6, 0, 0, []), (5, .aload_n 0, 6, 0, 0, 0, 0, []), (6, .iconst 0, 7, 0, 0, 0, 0, []), (7, .putfield 22, 10, 1, 3, 0, 0, []), (10, .iconst 0, 11, 0, 0, 0, 0, []), (11, .istore_n 2, 12, 0, 0, 0, 0, []), (12, .iconst 0, 13, 0, 0, 0, 0, []), (13, .istore_n 3, 14, 0, 0, 0, 0, []), (14, .iload_n 3, 15, 0, 0, 0, 0, []), (15, .bipush 60, 17, 0, 0, 0, 60, []), (17, .if_icmp .ge 64, 20, 81, 0, 0, 0, []), (20, .aload_n 0, 21, 0, 0, 0, 0, []), (21, .getfield 22, 24, 1, 3, 0, 0, []), (24, .aload_n 0, 25, 0, 0, 0, 0, []), (25, .getfield 15, 28, 1, 1, 0, 0, []), (28, .if_icmp .ge 53, 31, 81, 0, 0, 0, []), (31, .aload_n 0, 32, 0, 0, 0, 0, []), (32, .aload_n 0, 33, 0, 0, 0, 0, []), (33, .getfield 22, 36, 1, 3, 0, 0, []), (36, .putfield 25, 39, 1, 2, 0, 0, []), (39, .aload_n 0, 40, 0, 0, 0, 0, []), (40, .aload_n 0, 41, 0, 0, 0, 0, []), (41, .invokevirtual 28, 44, 45, 0, 1, 0, []), (44, .ifCond .eq 14, 47, 58, 0, 0, 0, []), (47, .aload_n 0, 48, 0, 0, 0, 0, []), (48, .aload_n 1, 49, 0, 0, 0, 0, []), (49, .invokevirtual 32, 52, 43, 1, 1, 0, []), (52, .invokestatic 36, 55, 44, 1, 0, 0, []), (55, .goto 4, 58, 59, 0, 0, 0, []), (58, .iconst 1, 59, 0, 0, 0, 1, []), (59, .putfield 19, 62, 1, 6, 0, 0, []), (62, .aload_n 0, 63, 0, 0, 0, 0, []), (63, .getfield 19, 66, 1, 6, 0, 0, []), (66, .ifCond .eq 6, 69, 72, 0, 0, 0, []), (69, .goto 12, 72, 81, 0, 0, 0, []), (72, .iinc 2 1, 75, 0, 0, 0, 1, []), (75, .iinc 3 1, 78, 0, 0, 0, 1, []), (78, .goto (-64), 81, 14, 0, 0, 0, []), (81, .iload_n 2, 82, 0, 0, 0, 0, []), (82, .ireturn, 83, 0, 0, 0, 0, [])]
def tbX1_runOn : Nat → pm_E := pm_lk ltX1_runOn
theorem okX1_runOn : ∀ pc, (tbX1_runOn pc).1 = .nop ∨ pm_ok mX1_runOn pw_Ms pc (tbX1_runOn pc) := pm_lk_ok (by decide +kernel)
theorem nr_X1_runOn : mX1_runOn.2.2.2 = (some .int) := rfl
theorem tX1_runOn_0 : tbX1_runOn 0 = (.aload_n 0, 1, 0, 0, 0, 0, []) := rfl
theorem tX1_runOn_1 : tbX1_runOn 1 = (.iconst 0, 2, 0, 0, 0, 0, []) := rfl
theorem tX1_runOn_2 : tbX1_runOn 2 = (.putfield 19, 5, 1, 6, 0, 0, []) := rfl
theorem tX1_runOn_5 : tbX1_runOn 5 = (.aload_n 0, 6, 0, 0, 0, 0, []) := rfl
theorem tX1_runOn_6 : tbX1_runOn 6 = (.iconst 0, 7, 0, 0, 0, 0, []) := rfl
theorem tX1_runOn_7 : tbX1_runOn 7 = (.putfield 22, 10, 1, 3, 0, 0, []) := rfl
theorem tX1_runOn_10 : tbX1_runOn 10 = (.iconst 0, 11, 0, 0, 0, 0, []) := rfl
theorem tX1_runOn_11 : tbX1_runOn 11 = (.istore_n 2, 12, 0, 0, 0, 0, []) := rfl
theorem tX1_runOn_12 : tbX1_runOn 12 = (.iconst 0, 13, 0, 0, 0, 0, []) := rfl
theorem tX1_runOn_13 : tbX1_runOn 13 = (.istore_n 3, 14, 0, 0, 0, 0, []) := rfl
theorem tX1_runOn_14 : tbX1_runOn 14 = (.iload_n 3, 15, 0, 0, 0, 0, []) := rfl
theorem tX1_runOn_15 : tbX1_runOn 15 = (.bipush 60, 17, 0, 0, 0, 60, []) := rfl
theorem tX1_runOn_17 : tbX1_runOn 17 = (.if_icmp .ge 64, 20, 81, 0, 0, 0, []) := rfl
theorem tX1_runOn_20 : tbX1_runOn 20 = (.aload_n 0, 21, 0, 0, 0, 0, []) := rfl
theorem tX1_runOn_21 : tbX1_runOn 21 = (.getfield 22, 24, 1, 3, 0, 0, []) := rfl
theorem tX1_runOn_24 : tbX1_runOn 24 = (.aload_n 0, 25, 0, 0, 0, 0, []) := rfl
theorem tX1_runOn_25 : tbX1_runOn 25 = (.getfield 15, 28, 1, 1, 0, 0, []) := rfl
theorem tX1_runOn_28 : tbX1_runOn 28 = (.if_icmp .ge 53, 31, 81, 0, 0, 0, []) := rfl
theorem tX1_runOn_31 : tbX1_runOn 31 = (.aload_n 0, 32, 0, 0, 0, 0, []) := rfl
theorem tX1_runOn_32 : tbX1_runOn 32 = (.aload_n 0, 33, 0, 0, 0, 0, []) := rfl
theorem tX1_runOn_33 : tbX1_runOn 33 = (.getfield 22, 36, 1, 3, 0, 0, []) := rfl
theorem tX1_runOn_36 : tbX1_runOn 36 = (.putfield 25, 39, 1, 2, 0, 0, []) := rfl
theorem tX1_runOn_39 : tbX1_runOn 39 = (.aload_n 0, 40, 0, 0, 0, 0, []) := rfl
theorem tX1_runOn_40 : tbX1_runOn 40 = (.aload_n 0, 41, 0, 0, 0, 0, []) := rfl
theorem tX1_runOn_41 : tbX1_runOn 41 = (.invokevirtual 28, 44, 45, 0, 1, 0, []) := rfl
theorem tX1_runOn_44 : tbX1_runOn 44 = (.ifCond .eq 14, 47, 58, 0, 0, 0, []) := rfl
theorem tX1_runOn_47 : tbX1_runOn 47 = (.aload_n 0, 48, 0, 0, 0, 0, []) := rfl
theorem tX1_runOn_48 : tbX1_runOn 48 = (.aload_n 1, 49, 0, 0, 0, 0, []) := rfl
theorem tX1_runOn_49 : tbX1_runOn 49 = (.invokevirtual 32, 52, 43, 1, 1, 0, []) := rfl
theorem tX1_runOn_52 : tbX1_runOn 52 = (.invokestatic 36, 55, 44, 1, 0, 0, []) := rfl
theorem tX1_runOn_55 : tbX1_runOn 55 = (.goto 4, 58, 59, 0, 0, 0, []) := rfl
theorem tX1_runOn_58 : tbX1_runOn 58 = (.iconst 1, 59, 0, 0, 0, 1, []) := rfl
theorem tX1_runOn_59 : tbX1_runOn 59 = (.putfield 19, 62, 1, 6, 0, 0, []) := rfl
theorem tX1_runOn_62 : tbX1_runOn 62 = (.aload_n 0, 63, 0, 0, 0, 0, []) := rfl
theorem tX1_runOn_63 : tbX1_runOn 63 = (.getfield 19, 66, 1, 6, 0, 0, []) := rfl
theorem tX1_runOn_66 : tbX1_runOn 66 = (.ifCond .eq 6, 69, 72, 0, 0, 0, []) := rfl
theorem tX1_runOn_69 : tbX1_runOn 69 = (.goto 12, 72, 81, 0, 0, 0, []) := rfl
theorem tX1_runOn_72 : tbX1_runOn 72 = (.iinc 2 1, 75, 0, 0, 0, 1, []) := rfl
theorem tX1_runOn_75 : tbX1_runOn 75 = (.iinc 3 1, 78, 0, 0, 0, 1, []) := rfl
theorem tX1_runOn_78 : tbX1_runOn 78 = (.goto (-64), 81, 14, 0, 0, 0, []) := rfl
theorem tX1_runOn_81 : tbX1_runOn 81 = (.iload_n 2, 82, 0, 0, 0, 0, []) := rfl
theorem tX1_runOn_82 : tbX1_runOn 82 = (.ireturn, 83, 0, 0, 0, 0, []) := rfl
def ltX1_answerOf : List (Nat × pm_E) := [(0, .aload_n 0, 1, 0, 0, 0, 0, []), (1, .aload_n 0, 2, 0, 0, 0, 0, []), (2, .getfield 25, 5, 1, 2, 0, 0, []), (5, .invokevirtual 40, 8, 49, 1, 1, 0, []), (8, .lookupswitch 97 #[(100, 92), (101, 52), (108, 61), (109, 74), (120, 87)], 60, 105, 0, 0, 0, [(100, 100), (101, 60), (108, 69), (109, 82), (120, 95)]), (60, .aload_n 1, 61, 0, 0, 0, 0, []), (61, .aload_n 0, 62, 0, 0, 0, 0, []), (62, .getfield 44, 65, 1, 4, 0, 0, []), (65, .invokevirtual 47, 68, 10, 1, 0, 0, []), (68, .ireturn, 69, 0, 0, 0, 0, []), (69, .aload_n 1, 70, 0, 0, 0, 0, []), (70, .aload_n 0, 71, 0, 0, 0, 0, []), (71, .getfield 44, 74, 1, 4, 0, 0, []), (74, .aload_n 0, 75, 0, 0, 0, 0, []), (75, .getfield 52, 78, 1, 5, 0, 0, []), (78, .invokevirtual 55, 81, 11, 2, 0, 0, []), (81, .ireturn, 82, 0, 0, 0, 0, []), (82, .aload_n 1, 83, 0, 0, 0, 0, []), (83, .aload_n 0, 84, 0, 0, 0, 0, []), (84, .getfield 44, 87, 1, 4, 0, 0, []), (87, .aload_n 0, 88, 0, 0, 0, 0, []), (88, .getfield 52, 91, 1, 5, 0, 0, []), (91, .invokevirtual 59, 94, 6, 2, 0, 0, []), (94, .ireturn, 95, 0, 0, 0, 0, []), (95, .aload_n 1, 96, 0, 0, 0, 0, []), (96, .invokevirtual 62, 99, 12, 0, 0, 0, []), (99, .ireturn, 100, 0, 0, 0, 0, []), (100, .aload_n 1, 101, 0, 0, 0, 0, []), (101, .invokevirtual 66, 104, 13, 0, 0, 0, []), (104, .ireturn, 105, 0, 0, 0, 0, []), (105, .aload_n 1, 106, 0, 0, 0, 0, []), (106, .aload_n 0, 107, 0, 0, 0, 0, []), (107, .getfield 44, 110, 1, 4, 0, 0, []), (110, .invokevirtual 69, 113, 14, 1, 0, 0, []), (113, .ireturn, 114, 0, 0, 0, 0, [])]
def tbX1_answerOf : Nat → pm_E := pm_lk ltX1_answerOf
theorem okX1_answerOf : ∀ pc, (tbX1_answerOf pc).1 = .nop ∨ pm_ok mX1_answerOf pw_Ms pc (tbX1_answerOf pc) := pm_lk_ok (by decide +kernel)
theorem nr_X1_answerOf : mX1_answerOf.2.2.2 = (some .int) := rfl
theorem tX1_answerOf_0 : tbX1_answerOf 0 = (.aload_n 0, 1, 0, 0, 0, 0, []) := rfl
theorem tX1_answerOf_1 : tbX1_answerOf 1 = (.aload_n 0, 2, 0, 0, 0, 0, []) := rfl
theorem tX1_answerOf_2 : tbX1_answerOf 2 = (.getfield 25, 5, 1, 2, 0, 0, []) := rfl
theorem tX1_answerOf_5 : tbX1_answerOf 5 = (.invokevirtual 40, 8, 49, 1, 1, 0, []) := rfl
theorem tX1_answerOf_8 : tbX1_answerOf 8 = (.lookupswitch 97 #[(100, 92), (101, 52), (108, 61), (109, 74), (120, 87)], 60, 105, 0, 0, 0, [(100, 100), (101, 60), (108, 69), (109, 82), (120, 95)]) := rfl
theorem tX1_answerOf_60 : tbX1_answerOf 60 = (.aload_n 1, 61, 0, 0, 0, 0, []) := rfl
theorem tX1_answerOf_61 : tbX1_answerOf 61 = (.aload_n 0, 62, 0, 0, 0, 0, []) := rfl
theorem tX1_answerOf_62 : tbX1_answerOf 62 = (.getfield 44, 65, 1, 4, 0, 0, []) := rfl
theorem tX1_answerOf_65 : tbX1_answerOf 65 = (.invokevirtual 47, 68, 10, 1, 0, 0, []) := rfl
theorem tX1_answerOf_68 : tbX1_answerOf 68 = (.ireturn, 69, 0, 0, 0, 0, []) := rfl
theorem tX1_answerOf_69 : tbX1_answerOf 69 = (.aload_n 1, 70, 0, 0, 0, 0, []) := rfl
theorem tX1_answerOf_70 : tbX1_answerOf 70 = (.aload_n 0, 71, 0, 0, 0, 0, []) := rfl
theorem tX1_answerOf_71 : tbX1_answerOf 71 = (.getfield 44, 74, 1, 4, 0, 0, []) := rfl
theorem tX1_answerOf_74 : tbX1_answerOf 74 = (.aload_n 0, 75, 0, 0, 0, 0, []) := rfl
theorem tX1_answerOf_75 : tbX1_answerOf 75 = (.getfield 52, 78, 1, 5, 0, 0, []) := rfl
theorem tX1_answerOf_78 : tbX1_answerOf 78 = (.invokevirtual 55, 81, 11, 2, 0, 0, []) := rfl
theorem tX1_answerOf_81 : tbX1_answerOf 81 = (.ireturn, 82, 0, 0, 0, 0, []) := rfl
theorem tX1_answerOf_82 : tbX1_answerOf 82 = (.aload_n 1, 83, 0, 0, 0, 0, []) := rfl
theorem tX1_answerOf_83 : tbX1_answerOf 83 = (.aload_n 0, 84, 0, 0, 0, 0, []) := rfl
theorem tX1_answerOf_84 : tbX1_answerOf 84 = (.getfield 44, 87, 1, 4, 0, 0, []) := rfl
theorem tX1_answerOf_87 : tbX1_answerOf 87 = (.aload_n 0, 88, 0, 0, 0, 0, []) := rfl
theorem tX1_answerOf_88 : tbX1_answerOf 88 = (.getfield 52, 91, 1, 5, 0, 0, []) := rfl
theorem tX1_answerOf_91 : tbX1_answerOf 91 = (.invokevirtual 59, 94, 6, 2, 0, 0, []) := rfl
theorem tX1_answerOf_94 : tbX1_answerOf 94 = (.ireturn, 95, 0, 0, 0, 0, []) := rfl
theorem tX1_answerOf_95 : tbX1_answerOf 95 = (.aload_n 1, 96, 0, 0, 0, 0, []) := rfl
theorem tX1_answerOf_96 : tbX1_answerOf 96 = (.invokevirtual 62, 99, 12, 0, 0, 0, []) := rfl
theorem tX1_answerOf_99 : tbX1_answerOf 99 = (.ireturn, 100, 0, 0, 0, 0, []) := rfl
theorem tX1_answerOf_100 : tbX1_answerOf 100 = (.aload_n 1, 101, 0, 0, 0, 0, []) := rfl
theorem tX1_answerOf_101 : tbX1_answerOf 101 = (.invokevirtual 66, 104, 13, 0, 0, 0, []) := rfl
theorem tX1_answerOf_104 : tbX1_answerOf 104 = (.ireturn, 105, 0, 0, 0, 0, []) := rfl
theorem tX1_answerOf_105 : tbX1_answerOf 105 = (.aload_n 1, 106, 0, 0, 0, 0, []) := rfl
theorem tX1_answerOf_106 : tbX1_answerOf 106 = (.aload_n 0, 107, 0, 0, 0, 0, []) := rfl
theorem tX1_answerOf_107 : tbX1_answerOf 107 = (.getfield 44, 110, 1, 4, 0, 0, []) := rfl
theorem tX1_answerOf_110 : tbX1_answerOf 110 = (.invokevirtual 69, 113, 14, 1, 0, 0, []) := rfl
theorem tX1_answerOf_113 : tbX1_answerOf 113 = (.ireturn, 114, 0, 0, 0, 0, []) := rfl
def ltX1_reasonOf : List (Nat × pm_E) := [(0, .iload_n 0, 1, 0, 0, 0, 0, []), (1, .ifCond .lt 5, 4, 6, 0, 0, 0, []), (4, .iconst 0, 5, 0, 0, 0, 0, []), (5, .ireturn, 6, 0, 0, 0, 0, []), (6, .iload_n 0, 7, 0, 0, 0, 0, []), (7, .iconst (-1), 8, 0, 0, 0, -1, []), (8, .if_icmp .ne 7, 11, 15, 0, 0, 0, []), (11, .iconst 2, 12, 0, 0, 0, 2, []), (12, .goto 4, 15, 16, 0, 0, 0, []), (15, .iconst 3, 16, 0, 0, 0, 3, []), (16, .ireturn, 17, 0, 0, 0, 0, [])]
def tbX1_reasonOf : Nat → pm_E := pm_lk ltX1_reasonOf
theorem okX1_reasonOf : ∀ pc, (tbX1_reasonOf pc).1 = .nop ∨ pm_ok mX1_reasonOf pw_Ms pc (tbX1_reasonOf pc) := pm_lk_ok (by decide +kernel)
theorem nr_X1_reasonOf : mX1_reasonOf.2.2.2 = (some .int) := rfl
theorem tX1_reasonOf_0 : tbX1_reasonOf 0 = (.iload_n 0, 1, 0, 0, 0, 0, []) := rfl
theorem tX1_reasonOf_1 : tbX1_reasonOf 1 = (.ifCond .lt 5, 4, 6, 0, 0, 0, []) := rfl
theorem tX1_reasonOf_4 : tbX1_reasonOf 4 = (.iconst 0, 5, 0, 0, 0, 0, []) := rfl
theorem tX1_reasonOf_5 : tbX1_reasonOf 5 = (.ireturn, 6, 0, 0, 0, 0, []) := rfl
theorem tX1_reasonOf_6 : tbX1_reasonOf 6 = (.iload_n 0, 7, 0, 0, 0, 0, []) := rfl
theorem tX1_reasonOf_7 : tbX1_reasonOf 7 = (.iconst (-1), 8, 0, 0, 0, -1, []) := rfl
theorem tX1_reasonOf_8 : tbX1_reasonOf 8 = (.if_icmp .ne 7, 11, 15, 0, 0, 0, []) := rfl
theorem tX1_reasonOf_11 : tbX1_reasonOf 11 = (.iconst 2, 12, 0, 0, 0, 2, []) := rfl
theorem tX1_reasonOf_12 : tbX1_reasonOf 12 = (.goto 4, 15, 16, 0, 0, 0, []) := rfl
theorem tX1_reasonOf_15 : tbX1_reasonOf 15 = (.iconst 3, 16, 0, 0, 0, 3, []) := rfl
theorem tX1_reasonOf_16 : tbX1_reasonOf 16 = (.ireturn, 17, 0, 0, 0, 0, []) := rfl
def ltX1_readEvent : List (Nat × pm_E) := [(0, .aload_n 0, 1, 0, 0, 0, 0, []), (1, .aload_n 0, 2, 0, 0, 0, 0, []), (2, .getfield 25, 5, 1, 2, 0, 0, []), (5, .iconst 1, 6, 0, 0, 0, 1, []), (6, .iadd, 7, 0, 0, 0, 0, []), (7, .putfield 22, 10, 1, 3, 0, 0, []), (10, .aload_n 0, 11, 0, 0, 0, 0, []), (11, .aload_n 0, 12, 0, 0, 0, 0, []), (12, .getfield 25, 15, 1, 2, 0, 0, []), (15, .invokevirtual 40, 18, 49, 1, 1, 0, []), (18, .lookupswitch 154 #[(100, 147), (101, 58), (108, 89), (109, 89), (116, 58), (120, 147)], 76, 172, 0, 0, 0, [(100, 165), (101, 76), (108, 107), (109, 107), (116, 76), (120, 165)]), (76, .aload_n 0, 77, 0, 0, 0, 0, []), (77, .aload_n 0, 78, 0, 0, 0, 0, []), (78, .invokevirtual 72, 81, 46, 0, 1, 0, []), (81, .putfield 44, 84, 1, 4, 0, 0, []), (84, .aload_n 0, 85, 0, 0, 0, 0, []), (85, .getfield 44, 88, 1, 4, 0, 0, []), (88, .iconst (-1), 89, 0, 0, 0, -1, []), (89, .if_icmp .eq 16, 92, 105, 0, 0, 0, []), (92, .aload_n 0, 93, 0, 0, 0, 0, []), (93, .bipush 59, 95, 0, 0, 0, 59, []), (95, .invokevirtual 75, 98, 47, 1, 1, 0, []), (98, .ifCond .eq 7, 101, 105, 0, 0, 0, []), (101, .iconst 1, 102, 0, 0, 0, 1, []), (102, .goto 4, 105, 106, 0, 0, 0, []), (105, .iconst 0, 106, 0, 0, 0, 0, []), (106, .ireturn, 107, 0, 0, 0, 0, []), (107, .aload_n 0, 108, 0, 0, 0, 0, []), (108, .aload_n 0, 109, 0, 0, 0, 0, []), (109, .invokevirtual 72, 112, 46, 0, 1, 0, []), (112, .putfield 44, 115, 1, 4, 0, 0, []), (115, .aload_n 0, 116, 0, 0, 0, 0, []), (116, .getfield 44, 119, 1, 4, 0, 0, []), (119, .iconst (-1), 120, 0, 0, 0, -1, []), (120, .if_icmp .eq 12, 123, 132, 0, 0, 0, []), (123, .aload_n 0, 124, 0, 0, 0, 0, []), (124, .bipush 44, 126, 0, 0, 0, 44, []), (126, .invokevirtual 75, 129, 47, 1, 1, 0, []), (129, .ifCond .ne 5, 132, 134, 0, 0, 0, []), (132, .iconst 0, 133, 0, 0, 0, 0, []), (133, .ireturn, 134, 0, 0, 0, 0, []), (134, .aload_n 0, 135, 0, 0, 0, 0, []), (135, .aload_n 0, 136, 0, 0, 0, 0, []), (136, .invokevirtual 72, 139, 46, 0, 1, 0, []), (139, .putfield 52, 142, 1, 5, 0, 0, []), (142, .aload_n 0, 143, 0, 0, 0, 0, []), (143, .getfield 52, 146, 1, 5, 0, 0, []), (146, .iconst (-1), 147, 0, 0, 0, -1, []), (147, .if_icmp .eq 16, 150, 163, 0, 0, 0, []), (150, .aload_n 0, 151, 0, 0, 0, 0, []), (151, .bipush 59, 153, 0, 0, 0, 59, []), (153, .invokevirtual 75, 156, 47, 1, 1, 0, []), (156, .ifCond .eq 7, 159, 163, 0, 0, 0, []), (159, .iconst 1, 160, 0, 0, 0, 1, []), (160, .goto 4, 163, 164, 0, 0, 0, []), (163, .iconst 0, 164, 0, 0, 0, 0, []), (164, .ireturn, 165, 0, 0, 0, 0, []), (165, .aload_n 0, 166, 0, 0, 0, 0, []), (166, .bipush 59, 168, 0, 0, 0, 59, []), (168, .invokevirtual 75, 171, 47, 1, 1, 0, []), (171, .ireturn, 172, 0, 0, 0, 0, []), (172, .iconst 0, 173, 0, 0, 0, 0, []), (173, .ireturn, 174, 0, 0, 0, 0, [])]
def tbX1_readEvent : Nat → pm_E := pm_lk ltX1_readEvent
theorem okX1_readEvent : ∀ pc, (tbX1_readEvent pc).1 = .nop ∨ pm_ok mX1_readEvent pw_Ms pc (tbX1_readEvent pc) := pm_lk_ok (by decide +kernel)
theorem nr_X1_readEvent : mX1_readEvent.2.2.2 = (some .boolean) := rfl
theorem tX1_readEvent_0 : tbX1_readEvent 0 = (.aload_n 0, 1, 0, 0, 0, 0, []) := rfl
theorem tX1_readEvent_1 : tbX1_readEvent 1 = (.aload_n 0, 2, 0, 0, 0, 0, []) := rfl
theorem tX1_readEvent_2 : tbX1_readEvent 2 = (.getfield 25, 5, 1, 2, 0, 0, []) := rfl
theorem tX1_readEvent_5 : tbX1_readEvent 5 = (.iconst 1, 6, 0, 0, 0, 1, []) := rfl
theorem tX1_readEvent_6 : tbX1_readEvent 6 = (.iadd, 7, 0, 0, 0, 0, []) := rfl
theorem tX1_readEvent_7 : tbX1_readEvent 7 = (.putfield 22, 10, 1, 3, 0, 0, []) := rfl
theorem tX1_readEvent_10 : tbX1_readEvent 10 = (.aload_n 0, 11, 0, 0, 0, 0, []) := rfl
theorem tX1_readEvent_11 : tbX1_readEvent 11 = (.aload_n 0, 12, 0, 0, 0, 0, []) := rfl
theorem tX1_readEvent_12 : tbX1_readEvent 12 = (.getfield 25, 15, 1, 2, 0, 0, []) := rfl
theorem tX1_readEvent_15 : tbX1_readEvent 15 = (.invokevirtual 40, 18, 49, 1, 1, 0, []) := rfl
theorem tX1_readEvent_18 : tbX1_readEvent 18 = (.lookupswitch 154 #[(100, 147), (101, 58), (108, 89), (109, 89), (116, 58), (120, 147)], 76, 172, 0, 0, 0, [(100, 165), (101, 76), (108, 107), (109, 107), (116, 76), (120, 165)]) := rfl
theorem tX1_readEvent_76 : tbX1_readEvent 76 = (.aload_n 0, 77, 0, 0, 0, 0, []) := rfl
theorem tX1_readEvent_77 : tbX1_readEvent 77 = (.aload_n 0, 78, 0, 0, 0, 0, []) := rfl
theorem tX1_readEvent_78 : tbX1_readEvent 78 = (.invokevirtual 72, 81, 46, 0, 1, 0, []) := rfl
theorem tX1_readEvent_81 : tbX1_readEvent 81 = (.putfield 44, 84, 1, 4, 0, 0, []) := rfl
theorem tX1_readEvent_84 : tbX1_readEvent 84 = (.aload_n 0, 85, 0, 0, 0, 0, []) := rfl
theorem tX1_readEvent_85 : tbX1_readEvent 85 = (.getfield 44, 88, 1, 4, 0, 0, []) := rfl
theorem tX1_readEvent_88 : tbX1_readEvent 88 = (.iconst (-1), 89, 0, 0, 0, -1, []) := rfl
theorem tX1_readEvent_89 : tbX1_readEvent 89 = (.if_icmp .eq 16, 92, 105, 0, 0, 0, []) := rfl
theorem tX1_readEvent_92 : tbX1_readEvent 92 = (.aload_n 0, 93, 0, 0, 0, 0, []) := rfl
theorem tX1_readEvent_93 : tbX1_readEvent 93 = (.bipush 59, 95, 0, 0, 0, 59, []) := rfl
theorem tX1_readEvent_95 : tbX1_readEvent 95 = (.invokevirtual 75, 98, 47, 1, 1, 0, []) := rfl
theorem tX1_readEvent_98 : tbX1_readEvent 98 = (.ifCond .eq 7, 101, 105, 0, 0, 0, []) := rfl
theorem tX1_readEvent_101 : tbX1_readEvent 101 = (.iconst 1, 102, 0, 0, 0, 1, []) := rfl
theorem tX1_readEvent_102 : tbX1_readEvent 102 = (.goto 4, 105, 106, 0, 0, 0, []) := rfl
theorem tX1_readEvent_105 : tbX1_readEvent 105 = (.iconst 0, 106, 0, 0, 0, 0, []) := rfl
theorem tX1_readEvent_106 : tbX1_readEvent 106 = (.ireturn, 107, 0, 0, 0, 0, []) := rfl
theorem tX1_readEvent_107 : tbX1_readEvent 107 = (.aload_n 0, 108, 0, 0, 0, 0, []) := rfl
theorem tX1_readEvent_108 : tbX1_readEvent 108 = (.aload_n 0, 109, 0, 0, 0, 0, []) := rfl
theorem tX1_readEvent_109 : tbX1_readEvent 109 = (.invokevirtual 72, 112, 46, 0, 1, 0, []) := rfl
theorem tX1_readEvent_112 : tbX1_readEvent 112 = (.putfield 44, 115, 1, 4, 0, 0, []) := rfl
theorem tX1_readEvent_115 : tbX1_readEvent 115 = (.aload_n 0, 116, 0, 0, 0, 0, []) := rfl
theorem tX1_readEvent_116 : tbX1_readEvent 116 = (.getfield 44, 119, 1, 4, 0, 0, []) := rfl
theorem tX1_readEvent_119 : tbX1_readEvent 119 = (.iconst (-1), 120, 0, 0, 0, -1, []) := rfl
theorem tX1_readEvent_120 : tbX1_readEvent 120 = (.if_icmp .eq 12, 123, 132, 0, 0, 0, []) := rfl
theorem tX1_readEvent_123 : tbX1_readEvent 123 = (.aload_n 0, 124, 0, 0, 0, 0, []) := rfl
theorem tX1_readEvent_124 : tbX1_readEvent 124 = (.bipush 44, 126, 0, 0, 0, 44, []) := rfl
theorem tX1_readEvent_126 : tbX1_readEvent 126 = (.invokevirtual 75, 129, 47, 1, 1, 0, []) := rfl
theorem tX1_readEvent_129 : tbX1_readEvent 129 = (.ifCond .ne 5, 132, 134, 0, 0, 0, []) := rfl
theorem tX1_readEvent_132 : tbX1_readEvent 132 = (.iconst 0, 133, 0, 0, 0, 0, []) := rfl
theorem tX1_readEvent_133 : tbX1_readEvent 133 = (.ireturn, 134, 0, 0, 0, 0, []) := rfl
theorem tX1_readEvent_134 : tbX1_readEvent 134 = (.aload_n 0, 135, 0, 0, 0, 0, []) := rfl
theorem tX1_readEvent_135 : tbX1_readEvent 135 = (.aload_n 0, 136, 0, 0, 0, 0, []) := rfl
theorem tX1_readEvent_136 : tbX1_readEvent 136 = (.invokevirtual 72, 139, 46, 0, 1, 0, []) := rfl
theorem tX1_readEvent_139 : tbX1_readEvent 139 = (.putfield 52, 142, 1, 5, 0, 0, []) := rfl
theorem tX1_readEvent_142 : tbX1_readEvent 142 = (.aload_n 0, 143, 0, 0, 0, 0, []) := rfl
theorem tX1_readEvent_143 : tbX1_readEvent 143 = (.getfield 52, 146, 1, 5, 0, 0, []) := rfl
theorem tX1_readEvent_146 : tbX1_readEvent 146 = (.iconst (-1), 147, 0, 0, 0, -1, []) := rfl
theorem tX1_readEvent_147 : tbX1_readEvent 147 = (.if_icmp .eq 16, 150, 163, 0, 0, 0, []) := rfl
theorem tX1_readEvent_150 : tbX1_readEvent 150 = (.aload_n 0, 151, 0, 0, 0, 0, []) := rfl
theorem tX1_readEvent_151 : tbX1_readEvent 151 = (.bipush 59, 153, 0, 0, 0, 59, []) := rfl
theorem tX1_readEvent_153 : tbX1_readEvent 153 = (.invokevirtual 75, 156, 47, 1, 1, 0, []) := rfl
theorem tX1_readEvent_156 : tbX1_readEvent 156 = (.ifCond .eq 7, 159, 163, 0, 0, 0, []) := rfl
theorem tX1_readEvent_159 : tbX1_readEvent 159 = (.iconst 1, 160, 0, 0, 0, 1, []) := rfl
theorem tX1_readEvent_160 : tbX1_readEvent 160 = (.goto 4, 163, 164, 0, 0, 0, []) := rfl
theorem tX1_readEvent_163 : tbX1_readEvent 163 = (.iconst 0, 164, 0, 0, 0, 0, []) := rfl
theorem tX1_readEvent_164 : tbX1_readEvent 164 = (.ireturn, 165, 0, 0, 0, 0, []) := rfl
theorem tX1_readEvent_165 : tbX1_readEvent 165 = (.aload_n 0, 166, 0, 0, 0, 0, []) := rfl
theorem tX1_readEvent_166 : tbX1_readEvent 166 = (.bipush 59, 168, 0, 0, 0, 59, []) := rfl
theorem tX1_readEvent_168 : tbX1_readEvent 168 = (.invokevirtual 75, 171, 47, 1, 1, 0, []) := rfl
theorem tX1_readEvent_171 : tbX1_readEvent 171 = (.ireturn, 172, 0, 0, 0, 0, []) := rfl
theorem tX1_readEvent_172 : tbX1_readEvent 172 = (.iconst 0, 173, 0, 0, 0, 0, []) := rfl
theorem tX1_readEvent_173 : tbX1_readEvent 173 = (.ireturn, 174, 0, 0, 0, 0, []) := rfl
def ltX1_readNumber : List (Nat × pm_E) := [(0, .aload_n 0, 1, 0, 0, 0, 0, []), (1, .aload_n 0, 2, 0, 0, 0, 0, []), (2, .getfield 22, 5, 1, 3, 0, 0, []), (5, .invokevirtual 79, 8, 48, 1, 1, 0, []), (8, .istore_n 1, 9, 0, 0, 0, 0, []), (9, .iload_n 1, 10, 0, 0, 0, 0, []), (10, .iconst (-1), 11, 0, 0, 0, -1, []), (11, .if_icmp .ne 5, 14, 16, 0, 0, 0, []), (14, .iconst (-1), 15, 0, 0, 0, -1, []), (15, .ireturn, 16, 0, 0, 0, 0, []), (16, .aload_n 0, 17, 0, 0, 0, 0, []), (17, .dup, 18, 0, 0, 0, 0, []), (18, .getfield 22, 21, 1, 3, 0, 0, []), (21, .iconst 1, 22, 0, 0, 0, 1, []), (22, .iadd, 23, 0, 0, 0, 0, []), (23, .putfield 22, 26, 1, 3, 0, 0, []), (26, .aload_n 0, 27, 0, 0, 0, 0, []), (27, .aload_n 0, 28, 0, 0, 0, 0, []), (28, .getfield 22, 31, 1, 3, 0, 0, []), (31, .invokevirtual 79, 34, 48, 1, 1, 0, []), (34, .istore_n 2, 35, 0, 0, 0, 0, []), (35, .iload_n 2, 36, 0, 0, 0, 0, []), (36, .iconst (-1), 37, 0, 0, 0, -1, []), (37, .if_icmp .ne 5, 40, 42, 0, 0, 0, []), (40, .iload_n 1, 41, 0, 0, 0, 0, []), (41, .ireturn, 42, 0, 0, 0, 0, []), (42, .aload_n 0, 43, 0, 0, 0, 0, []), (43, .dup, 44, 0, 0, 0, 0, []), (44, .getfield 22, 47, 1, 3, 0, 0, []), (47, .iconst 1, 48, 0, 0, 0, 1, []), (48, .iadd, 49, 0, 0, 0, 0, []), (49, .putfield 22, 52, 1, 3, 0, 0, []), (52, .bipush 10, 54, 0, 0, 0, 10, []), (54, .iload_n 1, 55, 0, 0, 0, 0, []), (55, .imul, 56, 0, 0, 0, 0, []), (56, .iload_n 2, 57, 0, 0, 0, 0, []), (57, .iadd, 58, 0, 0, 0, 0, []), (58, .ireturn, 59, 0, 0, 0, 0, [])]
def tbX1_readNumber : Nat → pm_E := pm_lk ltX1_readNumber
theorem okX1_readNumber : ∀ pc, (tbX1_readNumber pc).1 = .nop ∨ pm_ok mX1_readNumber pw_Ms pc (tbX1_readNumber pc) := pm_lk_ok (by decide +kernel)
theorem nr_X1_readNumber : mX1_readNumber.2.2.2 = (some .int) := rfl
theorem tX1_readNumber_0 : tbX1_readNumber 0 = (.aload_n 0, 1, 0, 0, 0, 0, []) := rfl
theorem tX1_readNumber_1 : tbX1_readNumber 1 = (.aload_n 0, 2, 0, 0, 0, 0, []) := rfl
theorem tX1_readNumber_2 : tbX1_readNumber 2 = (.getfield 22, 5, 1, 3, 0, 0, []) := rfl
theorem tX1_readNumber_5 : tbX1_readNumber 5 = (.invokevirtual 79, 8, 48, 1, 1, 0, []) := rfl
theorem tX1_readNumber_8 : tbX1_readNumber 8 = (.istore_n 1, 9, 0, 0, 0, 0, []) := rfl
theorem tX1_readNumber_9 : tbX1_readNumber 9 = (.iload_n 1, 10, 0, 0, 0, 0, []) := rfl
theorem tX1_readNumber_10 : tbX1_readNumber 10 = (.iconst (-1), 11, 0, 0, 0, -1, []) := rfl
theorem tX1_readNumber_11 : tbX1_readNumber 11 = (.if_icmp .ne 5, 14, 16, 0, 0, 0, []) := rfl
theorem tX1_readNumber_14 : tbX1_readNumber 14 = (.iconst (-1), 15, 0, 0, 0, -1, []) := rfl
theorem tX1_readNumber_15 : tbX1_readNumber 15 = (.ireturn, 16, 0, 0, 0, 0, []) := rfl
theorem tX1_readNumber_16 : tbX1_readNumber 16 = (.aload_n 0, 17, 0, 0, 0, 0, []) := rfl
theorem tX1_readNumber_17 : tbX1_readNumber 17 = (.dup, 18, 0, 0, 0, 0, []) := rfl
theorem tX1_readNumber_18 : tbX1_readNumber 18 = (.getfield 22, 21, 1, 3, 0, 0, []) := rfl
theorem tX1_readNumber_21 : tbX1_readNumber 21 = (.iconst 1, 22, 0, 0, 0, 1, []) := rfl
theorem tX1_readNumber_22 : tbX1_readNumber 22 = (.iadd, 23, 0, 0, 0, 0, []) := rfl
theorem tX1_readNumber_23 : tbX1_readNumber 23 = (.putfield 22, 26, 1, 3, 0, 0, []) := rfl
theorem tX1_readNumber_26 : tbX1_readNumber 26 = (.aload_n 0, 27, 0, 0, 0, 0, []) := rfl
theorem tX1_readNumber_27 : tbX1_readNumber 27 = (.aload_n 0, 28, 0, 0, 0, 0, []) := rfl
theorem tX1_readNumber_28 : tbX1_readNumber 28 = (.getfield 22, 31, 1, 3, 0, 0, []) := rfl
theorem tX1_readNumber_31 : tbX1_readNumber 31 = (.invokevirtual 79, 34, 48, 1, 1, 0, []) := rfl
theorem tX1_readNumber_34 : tbX1_readNumber 34 = (.istore_n 2, 35, 0, 0, 0, 0, []) := rfl
theorem tX1_readNumber_35 : tbX1_readNumber 35 = (.iload_n 2, 36, 0, 0, 0, 0, []) := rfl
theorem tX1_readNumber_36 : tbX1_readNumber 36 = (.iconst (-1), 37, 0, 0, 0, -1, []) := rfl
theorem tX1_readNumber_37 : tbX1_readNumber 37 = (.if_icmp .ne 5, 40, 42, 0, 0, 0, []) := rfl
theorem tX1_readNumber_40 : tbX1_readNumber 40 = (.iload_n 1, 41, 0, 0, 0, 0, []) := rfl
theorem tX1_readNumber_41 : tbX1_readNumber 41 = (.ireturn, 42, 0, 0, 0, 0, []) := rfl
theorem tX1_readNumber_42 : tbX1_readNumber 42 = (.aload_n 0, 43, 0, 0, 0, 0, []) := rfl
theorem tX1_readNumber_43 : tbX1_readNumber 43 = (.dup, 44, 0, 0, 0, 0, []) := rfl
theorem tX1_readNumber_44 : tbX1_readNumber 44 = (.getfield 22, 47, 1, 3, 0, 0, []) := rfl
theorem tX1_readNumber_47 : tbX1_readNumber 47 = (.iconst 1, 48, 0, 0, 0, 1, []) := rfl
theorem tX1_readNumber_48 : tbX1_readNumber 48 = (.iadd, 49, 0, 0, 0, 0, []) := rfl
theorem tX1_readNumber_49 : tbX1_readNumber 49 = (.putfield 22, 52, 1, 3, 0, 0, []) := rfl
theorem tX1_readNumber_52 : tbX1_readNumber 52 = (.bipush 10, 54, 0, 0, 0, 10, []) := rfl
theorem tX1_readNumber_54 : tbX1_readNumber 54 = (.iload_n 1, 55, 0, 0, 0, 0, []) := rfl
theorem tX1_readNumber_55 : tbX1_readNumber 55 = (.imul, 56, 0, 0, 0, 0, []) := rfl
theorem tX1_readNumber_56 : tbX1_readNumber 56 = (.iload_n 2, 57, 0, 0, 0, 0, []) := rfl
theorem tX1_readNumber_57 : tbX1_readNumber 57 = (.iadd, 58, 0, 0, 0, 0, []) := rfl
theorem tX1_readNumber_58 : tbX1_readNumber 58 = (.ireturn, 59, 0, 0, 0, 0, []) := rfl
def ltX1_readSign : List (Nat × pm_E) := [(0, .aload_n 0, 1, 0, 0, 0, 0, []), (1, .aload_n 0, 2, 0, 0, 0, 0, []), (2, .getfield 22, 5, 1, 3, 0, 0, []), (5, .invokevirtual 40, 8, 49, 1, 1, 0, []), (8, .iload_n 1, 9, 0, 0, 0, 0, []), (9, .if_icmp .ne 7, 12, 16, 0, 0, 0, []), (12, .iconst 1, 13, 0, 0, 0, 1, []), (13, .goto 4, 16, 17, 0, 0, 0, []), (16, .iconst 0, 17, 0, 0, 0, 0, []), (17, .istore_n 2, 18, 0, 0, 0, 0, []), (18, .aload_n 0, 19, 0, 0, 0, 0, []), (19, .dup, 20, 0, 0, 0, 0, []), (20, .getfield 22, 23, 1, 3, 0, 0, []), (23, .iconst 1, 24, 0, 0, 0, 1, []), (24, .iadd, 25, 0, 0, 0, 0, []), (25, .putfield 22, 28, 1, 3, 0, 0, []), (28, .iload_n 2, 29, 0, 0, 0, 0, []), (29, .ireturn, 30, 0, 0, 0, 0, [])]
def tbX1_readSign : Nat → pm_E := pm_lk ltX1_readSign
theorem okX1_readSign : ∀ pc, (tbX1_readSign pc).1 = .nop ∨ pm_ok mX1_readSign pw_Ms pc (tbX1_readSign pc) := pm_lk_ok (by decide +kernel)
theorem nr_X1_readSign : mX1_readSign.2.2.2 = (some .boolean) := rfl
theorem tX1_readSign_0 : tbX1_readSign 0 = (.aload_n 0, 1, 0, 0, 0, 0, []) := rfl
theorem tX1_readSign_1 : tbX1_readSign 1 = (.aload_n 0, 2, 0, 0, 0, 0, []) := rfl
theorem tX1_readSign_2 : tbX1_readSign 2 = (.getfield 22, 5, 1, 3, 0, 0, []) := rfl
theorem tX1_readSign_5 : tbX1_readSign 5 = (.invokevirtual 40, 8, 49, 1, 1, 0, []) := rfl
theorem tX1_readSign_8 : tbX1_readSign 8 = (.iload_n 1, 9, 0, 0, 0, 0, []) := rfl
theorem tX1_readSign_9 : tbX1_readSign 9 = (.if_icmp .ne 7, 12, 16, 0, 0, 0, []) := rfl
theorem tX1_readSign_12 : tbX1_readSign 12 = (.iconst 1, 13, 0, 0, 0, 1, []) := rfl
theorem tX1_readSign_13 : tbX1_readSign 13 = (.goto 4, 16, 17, 0, 0, 0, []) := rfl
theorem tX1_readSign_16 : tbX1_readSign 16 = (.iconst 0, 17, 0, 0, 0, 0, []) := rfl
theorem tX1_readSign_17 : tbX1_readSign 17 = (.istore_n 2, 18, 0, 0, 0, 0, []) := rfl
theorem tX1_readSign_18 : tbX1_readSign 18 = (.aload_n 0, 19, 0, 0, 0, 0, []) := rfl
theorem tX1_readSign_19 : tbX1_readSign 19 = (.dup, 20, 0, 0, 0, 0, []) := rfl
theorem tX1_readSign_20 : tbX1_readSign 20 = (.getfield 22, 23, 1, 3, 0, 0, []) := rfl
theorem tX1_readSign_23 : tbX1_readSign 23 = (.iconst 1, 24, 0, 0, 0, 1, []) := rfl
theorem tX1_readSign_24 : tbX1_readSign 24 = (.iadd, 25, 0, 0, 0, 0, []) := rfl
theorem tX1_readSign_25 : tbX1_readSign 25 = (.putfield 22, 28, 1, 3, 0, 0, []) := rfl
theorem tX1_readSign_28 : tbX1_readSign 28 = (.iload_n 2, 29, 0, 0, 0, 0, []) := rfl
theorem tX1_readSign_29 : tbX1_readSign 29 = (.ireturn, 30, 0, 0, 0, 0, []) := rfl
def ltX1_digitAt : List (Nat × pm_E) := [(0, .aload_n 0, 1, 0, 0, 0, 0, []), (1, .iload_n 1, 2, 0, 0, 0, 0, []), (2, .invokevirtual 40, 5, 49, 1, 1, 0, []), (5, .istore_n 2, 6, 0, 0, 0, 0, []), (6, .iload_n 2, 7, 0, 0, 0, 0, []), (7, .bipush 48, 9, 0, 0, 0, 48, []), (9, .if_icmp .lt 16, 12, 25, 0, 0, 0, []), (12, .iload_n 2, 13, 0, 0, 0, 0, []), (13, .bipush 57, 15, 0, 0, 0, 57, []), (15, .if_icmp .gt 10, 18, 25, 0, 0, 0, []), (18, .iload_n 2, 19, 0, 0, 0, 0, []), (19, .bipush 48, 21, 0, 0, 0, 48, []), (21, .isub, 22, 0, 0, 0, 0, []), (22, .goto 4, 25, 26, 0, 0, 0, []), (25, .iconst (-1), 26, 0, 0, 0, -1, []), (26, .ireturn, 27, 0, 0, 0, 0, [])]
def tbX1_digitAt : Nat → pm_E := pm_lk ltX1_digitAt
theorem okX1_digitAt : ∀ pc, (tbX1_digitAt pc).1 = .nop ∨ pm_ok mX1_digitAt pw_Ms pc (tbX1_digitAt pc) := pm_lk_ok (by decide +kernel)
theorem nr_X1_digitAt : mX1_digitAt.2.2.2 = (some .int) := rfl
theorem tX1_digitAt_0 : tbX1_digitAt 0 = (.aload_n 0, 1, 0, 0, 0, 0, []) := rfl
theorem tX1_digitAt_1 : tbX1_digitAt 1 = (.iload_n 1, 2, 0, 0, 0, 0, []) := rfl
theorem tX1_digitAt_2 : tbX1_digitAt 2 = (.invokevirtual 40, 5, 49, 1, 1, 0, []) := rfl
theorem tX1_digitAt_5 : tbX1_digitAt 5 = (.istore_n 2, 6, 0, 0, 0, 0, []) := rfl
theorem tX1_digitAt_6 : tbX1_digitAt 6 = (.iload_n 2, 7, 0, 0, 0, 0, []) := rfl
theorem tX1_digitAt_7 : tbX1_digitAt 7 = (.bipush 48, 9, 0, 0, 0, 48, []) := rfl
theorem tX1_digitAt_9 : tbX1_digitAt 9 = (.if_icmp .lt 16, 12, 25, 0, 0, 0, []) := rfl
theorem tX1_digitAt_12 : tbX1_digitAt 12 = (.iload_n 2, 13, 0, 0, 0, 0, []) := rfl
theorem tX1_digitAt_13 : tbX1_digitAt 13 = (.bipush 57, 15, 0, 0, 0, 57, []) := rfl
theorem tX1_digitAt_15 : tbX1_digitAt 15 = (.if_icmp .gt 10, 18, 25, 0, 0, 0, []) := rfl
theorem tX1_digitAt_18 : tbX1_digitAt 18 = (.iload_n 2, 19, 0, 0, 0, 0, []) := rfl
theorem tX1_digitAt_19 : tbX1_digitAt 19 = (.bipush 48, 21, 0, 0, 0, 48, []) := rfl
theorem tX1_digitAt_21 : tbX1_digitAt 21 = (.isub, 22, 0, 0, 0, 0, []) := rfl
theorem tX1_digitAt_22 : tbX1_digitAt 22 = (.goto 4, 25, 26, 0, 0, 0, []) := rfl
theorem tX1_digitAt_25 : tbX1_digitAt 25 = (.iconst (-1), 26, 0, 0, 0, -1, []) := rfl
theorem tX1_digitAt_26 : tbX1_digitAt 26 = (.ireturn, 27, 0, 0, 0, 0, []) := rfl
def ltX1_signAt : List (Nat × pm_E) := [(0, .iload_n 1, 1, 0, 0, 0, 0, []), (1, .ifCond .lt 20, 4, 21, 0, 0, 0, []), (4, .iload_n 1, 5, 0, 0, 0, 0, []), (5, .aload_n 0, 6, 0, 0, 0, 0, []), (6, .getfield 15, 9, 1, 1, 0, 0, []), (9, .if_icmp .ge 12, 12, 21, 0, 0, 0, []), (12, .aload_n 0, 13, 0, 0, 0, 0, []), (13, .getfield 9, 16, 1, 0, 0, 0, [(0, 0)]), (16, .iload_n 1, 17, 0, 0, 0, 0, []), (17, .caload, 18, 0, 0, 0, 0, []), (18, .goto 4, 21, 22, 0, 0, 0, []), (21, .iconst 0, 22, 0, 0, 0, 0, []), (22, .ireturn, 23, 0, 0, 0, 0, [])]
def tbX1_signAt : Nat → pm_E := pm_lk ltX1_signAt
theorem okX1_signAt : ∀ pc, (tbX1_signAt pc).1 = .nop ∨ pm_ok mX1_signAt pw_Ms pc (tbX1_signAt pc) := pm_lk_ok (by decide +kernel)
theorem nr_X1_signAt : mX1_signAt.2.2.2 = (some .char) := rfl
theorem tX1_signAt_0 : tbX1_signAt 0 = (.iload_n 1, 1, 0, 0, 0, 0, []) := rfl
theorem tX1_signAt_1 : tbX1_signAt 1 = (.ifCond .lt 20, 4, 21, 0, 0, 0, []) := rfl
theorem tX1_signAt_4 : tbX1_signAt 4 = (.iload_n 1, 5, 0, 0, 0, 0, []) := rfl
theorem tX1_signAt_5 : tbX1_signAt 5 = (.aload_n 0, 6, 0, 0, 0, 0, []) := rfl
theorem tX1_signAt_6 : tbX1_signAt 6 = (.getfield 15, 9, 1, 1, 0, 0, []) := rfl
theorem tX1_signAt_9 : tbX1_signAt 9 = (.if_icmp .ge 12, 12, 21, 0, 0, 0, []) := rfl
theorem tX1_signAt_12 : tbX1_signAt 12 = (.aload_n 0, 13, 0, 0, 0, 0, []) := rfl
theorem tX1_signAt_13 : tbX1_signAt 13 = (.getfield 9, 16, 1, 0, 0, 0, [(0, 0)]) := rfl
theorem tX1_signAt_16 : tbX1_signAt 16 = (.iload_n 1, 17, 0, 0, 0, 0, []) := rfl
theorem tX1_signAt_17 : tbX1_signAt 17 = (.caload, 18, 0, 0, 0, 0, []) := rfl
theorem tX1_signAt_18 : tbX1_signAt 18 = (.goto 4, 21, 22, 0, 0, 0, []) := rfl
theorem tX1_signAt_21 : tbX1_signAt 21 = (.iconst 0, 22, 0, 0, 0, 0, []) := rfl
theorem tX1_signAt_22 : tbX1_signAt 22 = (.ireturn, 23, 0, 0, 0, 0, []) := rfl
def ltX2_init : List (Nat × pm_E) := [(0, .aload_n 0, 1, 0, 0, 0, 0, []), (4, .aload_n 0, 5, 0, 0, 0, 0, []), (5, .iconst 5, 6, 0, 0, 0, 5, []), (12, .iconst 0, 13, 0, 0, 0, 0, []), (13, .istore_n 1, 14, 0, 0, 0, 0, []), (14, .iload_n 1, 15, 0, 0, 0, 0, []), (15, .iconst 4, 16, 0, 0, 0, 4, []), (16, .if_icmp .gt 22, 19, 38, 0, 0, 0, []), (19, .aload_n 0, 20, 0, 0, 0, 0, []), (20, .getfield 11, 23, 2, 0, 0, 0, [(0, 0)]), (23, .iload_n 1, 24, 0, 0, 0, 0, []), (27, .dup, 28, 0, 0, 0, 0, []), (32, .iinc 1 1, 35, 0, 0, 0, 1, []), (35, .goto (-21), 38, 14, 0, 0, 0, []), (38, .return_, 39, 0, 0, 0, 0, [])]
def tbX2_init : Nat → pm_E := pm_lk ltX2_init
theorem okX2_init : ∀ pc, (tbX2_init pc).1 = .nop ∨ pm_ok mX2_init pw_Ms pc (tbX2_init pc) := pm_lk_ok (by decide +kernel)
theorem nr_X2_init : mX2_init.2.2.2 = none := rfl
theorem tX2_init_0 : tbX2_init 0 = (.aload_n 0, 1, 0, 0, 0, 0, []) := rfl
theorem tX2_init_4 : tbX2_init 4 = (.aload_n 0, 5, 0, 0, 0, 0, []) := rfl
theorem tX2_init_5 : tbX2_init 5 = (.iconst 5, 6, 0, 0, 0, 5, []) := rfl
theorem tX2_init_12 : tbX2_init 12 = (.iconst 0, 13, 0, 0, 0, 0, []) := rfl
theorem tX2_init_13 : tbX2_init 13 = (.istore_n 1, 14, 0, 0, 0, 0, []) := rfl
theorem tX2_init_14 : tbX2_init 14 = (.iload_n 1, 15, 0, 0, 0, 0, []) := rfl
theorem tX2_init_15 : tbX2_init 15 = (.iconst 4, 16, 0, 0, 0, 4, []) := rfl
theorem tX2_init_16 : tbX2_init 16 = (.if_icmp .gt 22, 19, 38, 0, 0, 0, []) := rfl
theorem tX2_init_19 : tbX2_init 19 = (.aload_n 0, 20, 0, 0, 0, 0, []) := rfl
theorem tX2_init_20 : tbX2_init 20 = (.getfield 11, 23, 2, 0, 0, 0, [(0, 0)]) := rfl
theorem tX2_init_23 : tbX2_init 23 = (.iload_n 1, 24, 0, 0, 0, 0, []) := rfl
theorem tX2_init_27 : tbX2_init 27 = (.dup, 28, 0, 0, 0, 0, []) := rfl
theorem tX2_init_32 : tbX2_init 32 = (.iinc 1 1, 35, 0, 0, 0, 1, []) := rfl
theorem tX2_init_35 : tbX2_init 35 = (.goto (-21), 38, 14, 0, 0, 0, []) := rfl
theorem tX2_init_38 : tbX2_init 38 = (.return_, 39, 0, 0, 0, 0, []) := rfl
def ltX2_prepare : List (Nat × pm_E) := [(0, .aload_n 0, 1, 0, 0, 0, 0, []), (1, .getfield 11, 4, 2, 0, 0, 0, [(0, 0)]), (4, .aload_n 0, 5, 0, 0, 0, 0, []), (5, .getfield 18, 8, 2, 1, 0, 0, []), (8, .aaload, 9, 0, 0, 0, 0, []), (9, .aload_n 1, 10, 0, 0, 0, 0, []), (10, .invokevirtual 22, 13, 1, 1, 0, 0, []), (13, .return_, 14, 0, 0, 0, 0, [])]
def tbX2_prepare : Nat → pm_E := pm_lk ltX2_prepare
theorem okX2_prepare : ∀ pc, (tbX2_prepare pc).1 = .nop ∨ pm_ok mX2_prepare pw_Ms pc (tbX2_prepare pc) := pm_lk_ok (by decide +kernel)
theorem nr_X2_prepare : mX2_prepare.2.2.2 = none := rfl
theorem tX2_prepare_0 : tbX2_prepare 0 = (.aload_n 0, 1, 0, 0, 0, 0, []) := rfl
theorem tX2_prepare_1 : tbX2_prepare 1 = (.getfield 11, 4, 2, 0, 0, 0, [(0, 0)]) := rfl
theorem tX2_prepare_4 : tbX2_prepare 4 = (.aload_n 0, 5, 0, 0, 0, 0, []) := rfl
theorem tX2_prepare_5 : tbX2_prepare 5 = (.getfield 18, 8, 2, 1, 0, 0, []) := rfl
theorem tX2_prepare_8 : tbX2_prepare 8 = (.aaload, 9, 0, 0, 0, 0, []) := rfl
theorem tX2_prepare_9 : tbX2_prepare 9 = (.aload_n 1, 10, 0, 0, 0, 0, []) := rfl
theorem tX2_prepare_10 : tbX2_prepare 10 = (.invokevirtual 22, 13, 1, 1, 0, 0, []) := rfl
theorem tX2_prepare_13 : tbX2_prepare 13 = (.return_, 14, 0, 0, 0, 0, []) := rfl
def ltX2_close : List (Nat × pm_E) := [(0, .iload_n 1, 1, 0, 0, 0, 0, []), (1, .ifCond .lt 25, 4, 26, 0, 0, 0, []), (4, .aload_n 0, 5, 0, 0, 0, 0, []), (5, .dup, 6, 0, 0, 0, 0, []), (6, .getfield 18, 9, 2, 1, 0, 0, []), (9, .iconst 1, 10, 0, 0, 0, 1, []), (10, .iadd, 11, 0, 0, 0, 0, []), (11, .putfield 18, 14, 2, 1, 0, 0, []), (14, .aload_n 0, 15, 0, 0, 0, 0, []), (15, .getfield 18, 18, 2, 1, 0, 0, []), (18, .iconst 4, 19, 0, 0, 0, 4, []), (19, .if_icmp .le 7, 22, 26, 0, 0, 0, []), (22, .aload_n 0, 23, 0, 0, 0, 0, []), (23, .invokevirtual 26, 26, 54, 0, 2, 0, []), (26, .iload_n 1, 27, 0, 0, 0, 0, []), (27, .ireturn, 28, 0, 0, 0, 0, [])]
def tbX2_close : Nat → pm_E := pm_lk ltX2_close
theorem okX2_close : ∀ pc, (tbX2_close pc).1 = .nop ∨ pm_ok mX2_close pw_Ms pc (tbX2_close pc) := pm_lk_ok (by decide +kernel)
theorem nr_X2_close : mX2_close.2.2.2 = (some .int) := rfl
theorem tX2_close_0 : tbX2_close 0 = (.iload_n 1, 1, 0, 0, 0, 0, []) := rfl
theorem tX2_close_1 : tbX2_close 1 = (.ifCond .lt 25, 4, 26, 0, 0, 0, []) := rfl
theorem tX2_close_4 : tbX2_close 4 = (.aload_n 0, 5, 0, 0, 0, 0, []) := rfl
theorem tX2_close_5 : tbX2_close 5 = (.dup, 6, 0, 0, 0, 0, []) := rfl
theorem tX2_close_6 : tbX2_close 6 = (.getfield 18, 9, 2, 1, 0, 0, []) := rfl
theorem tX2_close_9 : tbX2_close 9 = (.iconst 1, 10, 0, 0, 0, 1, []) := rfl
theorem tX2_close_10 : tbX2_close 10 = (.iadd, 11, 0, 0, 0, 0, []) := rfl
theorem tX2_close_11 : tbX2_close 11 = (.putfield 18, 14, 2, 1, 0, 0, []) := rfl
theorem tX2_close_14 : tbX2_close 14 = (.aload_n 0, 15, 0, 0, 0, 0, []) := rfl
theorem tX2_close_15 : tbX2_close 15 = (.getfield 18, 18, 2, 1, 0, 0, []) := rfl
theorem tX2_close_18 : tbX2_close 18 = (.iconst 4, 19, 0, 0, 0, 4, []) := rfl
theorem tX2_close_19 : tbX2_close 19 = (.if_icmp .le 7, 22, 26, 0, 0, 0, []) := rfl
theorem tX2_close_22 : tbX2_close 22 = (.aload_n 0, 23, 0, 0, 0, 0, []) := rfl
theorem tX2_close_23 : tbX2_close 23 = (.invokevirtual 26, 26, 54, 0, 2, 0, []) := rfl
theorem tX2_close_26 : tbX2_close 26 = (.iload_n 1, 27, 0, 0, 0, 0, []) := rfl
theorem tX2_close_27 : tbX2_close 27 = (.ireturn, 28, 0, 0, 0, 0, []) := rfl
def ltX2_restore : List (Nat × pm_E) := [(0, .aload_n 0, 1, 0, 0, 0, 0, []), (1, .getfield 18, 4, 2, 1, 0, 0, []), (4, .ifCond .ne 6, 7, 10, 0, 0, 0, []), (7, .bipush (-2), 9, 0, 0, 0, -2, []), (9, .ireturn, 10, 0, 0, 0, 0, []), (10, .aload_n 0, 11, 0, 0, 0, 0, []), (11, .dup, 12, 0, 0, 0, 0, []), (12, .getfield 18, 15, 2, 1, 0, 0, []), (15, .iconst 1, 16, 0, 0, 0, 1, []), (16, .isub, 17, 0, 0, 0, 0, []), (17, .putfield 18, 20, 2, 1, 0, 0, []), (20, .aload_n 1, 21, 0, 0, 0, 0, []), (21, .aload_n 0, 22, 0, 0, 0, 0, []), (22, .getfield 11, 25, 2, 0, 0, 0, [(0, 0)]), (25, .aload_n 0, 26, 0, 0, 0, 0, []), (26, .getfield 18, 29, 2, 1, 0, 0, []), (29, .aaload, 30, 0, 0, 0, 0, []), (30, .invokevirtual 22, 33, 1, 1, 0, 0, []), (33, .aload_n 0, 34, 0, 0, 0, 0, []), (34, .getfield 18, 37, 2, 1, 0, 0, []), (37, .ireturn, 38, 0, 0, 0, 0, [])]
def tbX2_restore : Nat → pm_E := pm_lk ltX2_restore
theorem okX2_restore : ∀ pc, (tbX2_restore pc).1 = .nop ∨ pm_ok mX2_restore pw_Ms pc (tbX2_restore pc) := pm_lk_ok (by decide +kernel)
theorem nr_X2_restore : mX2_restore.2.2.2 = (some .int) := rfl
theorem tX2_restore_0 : tbX2_restore 0 = (.aload_n 0, 1, 0, 0, 0, 0, []) := rfl
theorem tX2_restore_1 : tbX2_restore 1 = (.getfield 18, 4, 2, 1, 0, 0, []) := rfl
theorem tX2_restore_4 : tbX2_restore 4 = (.ifCond .ne 6, 7, 10, 0, 0, 0, []) := rfl
theorem tX2_restore_7 : tbX2_restore 7 = (.bipush (-2), 9, 0, 0, 0, -2, []) := rfl
theorem tX2_restore_9 : tbX2_restore 9 = (.ireturn, 10, 0, 0, 0, 0, []) := rfl
theorem tX2_restore_10 : tbX2_restore 10 = (.aload_n 0, 11, 0, 0, 0, 0, []) := rfl
theorem tX2_restore_11 : tbX2_restore 11 = (.dup, 12, 0, 0, 0, 0, []) := rfl
theorem tX2_restore_12 : tbX2_restore 12 = (.getfield 18, 15, 2, 1, 0, 0, []) := rfl
theorem tX2_restore_15 : tbX2_restore 15 = (.iconst 1, 16, 0, 0, 0, 1, []) := rfl
theorem tX2_restore_16 : tbX2_restore 16 = (.isub, 17, 0, 0, 0, 0, []) := rfl
theorem tX2_restore_17 : tbX2_restore 17 = (.putfield 18, 20, 2, 1, 0, 0, []) := rfl
theorem tX2_restore_20 : tbX2_restore 20 = (.aload_n 1, 21, 0, 0, 0, 0, []) := rfl
theorem tX2_restore_21 : tbX2_restore 21 = (.aload_n 0, 22, 0, 0, 0, 0, []) := rfl
theorem tX2_restore_22 : tbX2_restore 22 = (.getfield 11, 25, 2, 0, 0, 0, [(0, 0)]) := rfl
theorem tX2_restore_25 : tbX2_restore 25 = (.aload_n 0, 26, 0, 0, 0, 0, []) := rfl
theorem tX2_restore_26 : tbX2_restore 26 = (.getfield 18, 29, 2, 1, 0, 0, []) := rfl
theorem tX2_restore_29 : tbX2_restore 29 = (.aaload, 30, 0, 0, 0, 0, []) := rfl
theorem tX2_restore_30 : tbX2_restore 30 = (.invokevirtual 22, 33, 1, 1, 0, 0, []) := rfl
theorem tX2_restore_33 : tbX2_restore 33 = (.aload_n 0, 34, 0, 0, 0, 0, []) := rfl
theorem tX2_restore_34 : tbX2_restore 34 = (.getfield 18, 37, 2, 1, 0, 0, []) := rfl
theorem tX2_restore_37 : tbX2_restore 37 = (.ireturn, 38, 0, 0, 0, 0, []) := rfl
def ltX2_dropOldest : List (Nat × pm_E) := [(0, .aload_n 0, 1, 0, 0, 0, 0, []), (1, .getfield 11, 4, 2, 0, 0, 0, [(0, 0)]), (4, .iconst 0, 5, 0, 0, 0, 0, []), (5, .aaload, 6, 0, 0, 0, 0, []), (6, .astore_n 1, 7, 0, 0, 0, 0, []), (7, .iconst 0, 8, 0, 0, 0, 0, []), (8, .istore_n 2, 9, 0, 0, 0, 0, []), (9, .iload_n 2, 10, 0, 0, 0, 0, []), (10, .iconst 4, 11, 0, 0, 0, 4, []), (11, .if_icmp .ge 23, 14, 34, 0, 0, 0, []), (14, .aload_n 0, 15, 0, 0, 0, 0, []), (15, .getfield 11, 18, 2, 0, 0, 0, [(0, 0)]), (18, .iload_n 2, 19, 0, 0, 0, 0, []), (19, .aload_n 0, 20, 0, 0, 0, 0, []), (20, .getfield 11, 23, 2, 0, 0, 0, [(0, 0)]), (23, .iload_n 2, 24, 0, 0, 0, 0, []), (24, .iconst 1, 25, 0, 0, 0, 1, []), (25, .iadd, 26, 0, 0, 0, 0, []), (26, .aaload, 27, 0, 0, 0, 0, []), (28, .iinc 2 1, 31, 0, 0, 0, 1, []), (31, .goto (-22), 34, 9, 0, 0, 0, []), (34, .aload_n 0, 35, 0, 0, 0, 0, []), (35, .getfield 11, 38, 2, 0, 0, 0, [(0, 0)]), (38, .iconst 4, 39, 0, 0, 0, 4, []), (39, .aload_n 1, 40, 0, 0, 0, 0, []), (41, .aload_n 0, 42, 0, 0, 0, 0, []), (42, .dup, 43, 0, 0, 0, 0, []), (43, .getfield 18, 46, 2, 1, 0, 0, []), (46, .iconst 1, 47, 0, 0, 0, 1, []), (47, .isub, 48, 0, 0, 0, 0, []), (48, .putfield 18, 51, 2, 1, 0, 0, []), (51, .return_, 52, 0, 0, 0, 0, [])]
def tbX2_dropOldest : Nat → pm_E := pm_lk ltX2_dropOldest
theorem okX2_dropOldest : ∀ pc, (tbX2_dropOldest pc).1 = .nop ∨ pm_ok mX2_dropOldest pw_Ms pc (tbX2_dropOldest pc) := pm_lk_ok (by decide +kernel)
theorem nr_X2_dropOldest : mX2_dropOldest.2.2.2 = none := rfl
theorem tX2_dropOldest_0 : tbX2_dropOldest 0 = (.aload_n 0, 1, 0, 0, 0, 0, []) := rfl
theorem tX2_dropOldest_1 : tbX2_dropOldest 1 = (.getfield 11, 4, 2, 0, 0, 0, [(0, 0)]) := rfl
theorem tX2_dropOldest_4 : tbX2_dropOldest 4 = (.iconst 0, 5, 0, 0, 0, 0, []) := rfl
theorem tX2_dropOldest_5 : tbX2_dropOldest 5 = (.aaload, 6, 0, 0, 0, 0, []) := rfl
theorem tX2_dropOldest_6 : tbX2_dropOldest 6 = (.astore_n 1, 7, 0, 0, 0, 0, []) := rfl
theorem tX2_dropOldest_7 : tbX2_dropOldest 7 = (.iconst 0, 8, 0, 0, 0, 0, []) := rfl
theorem tX2_dropOldest_8 : tbX2_dropOldest 8 = (.istore_n 2, 9, 0, 0, 0, 0, []) := rfl
theorem tX2_dropOldest_9 : tbX2_dropOldest 9 = (.iload_n 2, 10, 0, 0, 0, 0, []) := rfl
theorem tX2_dropOldest_10 : tbX2_dropOldest 10 = (.iconst 4, 11, 0, 0, 0, 4, []) := rfl
theorem tX2_dropOldest_11 : tbX2_dropOldest 11 = (.if_icmp .ge 23, 14, 34, 0, 0, 0, []) := rfl
theorem tX2_dropOldest_14 : tbX2_dropOldest 14 = (.aload_n 0, 15, 0, 0, 0, 0, []) := rfl
theorem tX2_dropOldest_15 : tbX2_dropOldest 15 = (.getfield 11, 18, 2, 0, 0, 0, [(0, 0)]) := rfl
theorem tX2_dropOldest_18 : tbX2_dropOldest 18 = (.iload_n 2, 19, 0, 0, 0, 0, []) := rfl
theorem tX2_dropOldest_19 : tbX2_dropOldest 19 = (.aload_n 0, 20, 0, 0, 0, 0, []) := rfl
theorem tX2_dropOldest_20 : tbX2_dropOldest 20 = (.getfield 11, 23, 2, 0, 0, 0, [(0, 0)]) := rfl
theorem tX2_dropOldest_23 : tbX2_dropOldest 23 = (.iload_n 2, 24, 0, 0, 0, 0, []) := rfl
theorem tX2_dropOldest_24 : tbX2_dropOldest 24 = (.iconst 1, 25, 0, 0, 0, 1, []) := rfl
theorem tX2_dropOldest_25 : tbX2_dropOldest 25 = (.iadd, 26, 0, 0, 0, 0, []) := rfl
theorem tX2_dropOldest_26 : tbX2_dropOldest 26 = (.aaload, 27, 0, 0, 0, 0, []) := rfl
theorem tX2_dropOldest_28 : tbX2_dropOldest 28 = (.iinc 2 1, 31, 0, 0, 0, 1, []) := rfl
theorem tX2_dropOldest_31 : tbX2_dropOldest 31 = (.goto (-22), 34, 9, 0, 0, 0, []) := rfl
theorem tX2_dropOldest_34 : tbX2_dropOldest 34 = (.aload_n 0, 35, 0, 0, 0, 0, []) := rfl
theorem tX2_dropOldest_35 : tbX2_dropOldest 35 = (.getfield 11, 38, 2, 0, 0, 0, [(0, 0)]) := rfl
theorem tX2_dropOldest_38 : tbX2_dropOldest 38 = (.iconst 4, 39, 0, 0, 0, 4, []) := rfl
theorem tX2_dropOldest_39 : tbX2_dropOldest 39 = (.aload_n 1, 40, 0, 0, 0, 0, []) := rfl
theorem tX2_dropOldest_41 : tbX2_dropOldest 41 = (.aload_n 0, 42, 0, 0, 0, 0, []) := rfl
theorem tX2_dropOldest_42 : tbX2_dropOldest 42 = (.dup, 43, 0, 0, 0, 0, []) := rfl
theorem tX2_dropOldest_43 : tbX2_dropOldest 43 = (.getfield 18, 46, 2, 1, 0, 0, []) := rfl
theorem tX2_dropOldest_46 : tbX2_dropOldest 46 = (.iconst 1, 47, 0, 0, 0, 1, []) := rfl
theorem tX2_dropOldest_47 : tbX2_dropOldest 47 = (.isub, 48, 0, 0, 0, 0, []) := rfl
theorem tX2_dropOldest_48 : tbX2_dropOldest 48 = (.putfield 18, 51, 2, 1, 0, 0, []) := rfl
theorem tX2_dropOldest_51 : tbX2_dropOldest 51 = (.return_, 52, 0, 0, 0, 0, []) := rfl
def ltX3_init : List (Nat × pm_E) := [(0, .aload_n 0, 1, 0, 0, 0, 0, []), (4, .return_, 5, 0, 0, 0, 0, [])]
def tbX3_init : Nat → pm_E := pm_lk ltX3_init
theorem okX3_init : ∀ pc, (tbX3_init pc).1 = .nop ∨ pm_ok mX3_init pw_Ms pc (tbX3_init pc) := pm_lk_ok (by decide +kernel)
theorem nr_X3_init : mX3_init.2.2.2 = none := rfl
theorem tX3_init_0 : tbX3_init 0 = (.aload_n 0, 1, 0, 0, 0, 0, []) := rfl
theorem tX3_init_4 : tbX3_init 4 = (.return_, 5, 0, 0, 0, 0, []) := rfl
def ltX3_copyFrom : List (Nat × pm_E) := [(0, .aload_n 0, 1, 0, 0, 0, 0, []), (1, .aload_n 1, 2, 0, 0, 0, 0, []), (2, .getfield 7, 5, 3, 0, 0, 0, []), (5, .putfield 7, 8, 3, 0, 0, 0, []), (8, .aload_n 0, 9, 0, 0, 0, 0, []), (9, .aload_n 1, 10, 0, 0, 0, 0, []), (10, .getfield 13, 13, 3, 1, 0, 0, []), (13, .putfield 13, 16, 3, 1, 0, 0, []), (16, .aload_n 0, 17, 0, 0, 0, 0, []), (17, .aload_n 1, 18, 0, 0, 0, 0, []), (18, .getfield 16, 21, 3, 2, 0, 0, []), (21, .putfield 16, 24, 3, 2, 0, 0, [(0, 0)]), (24, .aload_n 0, 25, 0, 0, 0, 0, []), (25, .aload_n 1, 26, 0, 0, 0, 0, []), (26, .getfield 20, 29, 3, 3, 0, 0, []), (29, .putfield 20, 32, 3, 3, 0, 0, [(0, 0)]), (32, .aload_n 0, 33, 0, 0, 0, 0, []), (33, .aload_n 1, 34, 0, 0, 0, 0, []), (34, .getfield 23, 37, 3, 4, 0, 0, []), (37, .putfield 23, 40, 3, 4, 0, 0, [(0, 0)]), (40, .aload_n 0, 41, 0, 0, 0, 0, []), (41, .aload_n 1, 42, 0, 0, 0, 0, []), (42, .getfield 26, 45, 3, 5, 0, 0, []), (45, .putfield 26, 48, 3, 5, 0, 0, []), (48, .aload_n 0, 49, 0, 0, 0, 0, []), (49, .aload_n 1, 50, 0, 0, 0, 0, []), (50, .getfield 29, 53, 3, 6, 0, 0, []), (53, .putfield 29, 56, 3, 6, 0, 0, []), (56, .aload_n 0, 57, 0, 0, 0, 0, []), (57, .aload_n 1, 58, 0, 0, 0, 0, []), (58, .getfield 32, 61, 3, 7, 0, 0, []), (61, .putfield 32, 64, 3, 7, 0, 0, []), (64, .aload_n 0, 65, 0, 0, 0, 0, []), (65, .aload_n 1, 66, 0, 0, 0, 0, []), (66, .getfield 35, 69, 3, 8, 0, 0, []), (69, .putfield 35, 72, 3, 8, 0, 0, []), (72, .aload_n 0, 73, 0, 0, 0, 0, []), (73, .aload_n 1, 74, 0, 0, 0, 0, []), (74, .getfield 38, 77, 3, 9, 0, 0, []), (77, .putfield 38, 80, 3, 9, 0, 0, []), (80, .aload_n 0, 81, 0, 0, 0, 0, []), (81, .aload_n 1, 82, 0, 0, 0, 0, []), (82, .getfield 41, 85, 3, 10, 0, 0, []), (85, .putfield 41, 88, 3, 10, 0, 0, []), (88, .aload_n 0, 89, 0, 0, 0, 0, []), (89, .aload_n 1, 90, 0, 0, 0, 0, []), (90, .getfield 44, 93, 3, 11, 0, 0, []), (93, .putfield 44, 96, 3, 11, 0, 0, []), (96, .return_, 97, 0, 0, 0, 0, [])]
def tbX3_copyFrom : Nat → pm_E := pm_lk ltX3_copyFrom
theorem okX3_copyFrom : ∀ pc, (tbX3_copyFrom pc).1 = .nop ∨ pm_ok mX3_copyFrom pw_Ms pc (tbX3_copyFrom pc) := pm_lk_ok (by decide +kernel)
theorem nr_X3_copyFrom : mX3_copyFrom.2.2.2 = none := rfl
theorem tX3_copyFrom_0 : tbX3_copyFrom 0 = (.aload_n 0, 1, 0, 0, 0, 0, []) := rfl
theorem tX3_copyFrom_1 : tbX3_copyFrom 1 = (.aload_n 1, 2, 0, 0, 0, 0, []) := rfl
theorem tX3_copyFrom_2 : tbX3_copyFrom 2 = (.getfield 7, 5, 3, 0, 0, 0, []) := rfl
theorem tX3_copyFrom_5 : tbX3_copyFrom 5 = (.putfield 7, 8, 3, 0, 0, 0, []) := rfl
theorem tX3_copyFrom_8 : tbX3_copyFrom 8 = (.aload_n 0, 9, 0, 0, 0, 0, []) := rfl
theorem tX3_copyFrom_9 : tbX3_copyFrom 9 = (.aload_n 1, 10, 0, 0, 0, 0, []) := rfl
theorem tX3_copyFrom_10 : tbX3_copyFrom 10 = (.getfield 13, 13, 3, 1, 0, 0, []) := rfl
theorem tX3_copyFrom_13 : tbX3_copyFrom 13 = (.putfield 13, 16, 3, 1, 0, 0, []) := rfl
theorem tX3_copyFrom_16 : tbX3_copyFrom 16 = (.aload_n 0, 17, 0, 0, 0, 0, []) := rfl
theorem tX3_copyFrom_17 : tbX3_copyFrom 17 = (.aload_n 1, 18, 0, 0, 0, 0, []) := rfl
theorem tX3_copyFrom_18 : tbX3_copyFrom 18 = (.getfield 16, 21, 3, 2, 0, 0, []) := rfl
theorem tX3_copyFrom_21 : tbX3_copyFrom 21 = (.putfield 16, 24, 3, 2, 0, 0, [(0, 0)]) := rfl
theorem tX3_copyFrom_24 : tbX3_copyFrom 24 = (.aload_n 0, 25, 0, 0, 0, 0, []) := rfl
theorem tX3_copyFrom_25 : tbX3_copyFrom 25 = (.aload_n 1, 26, 0, 0, 0, 0, []) := rfl
theorem tX3_copyFrom_26 : tbX3_copyFrom 26 = (.getfield 20, 29, 3, 3, 0, 0, []) := rfl
theorem tX3_copyFrom_29 : tbX3_copyFrom 29 = (.putfield 20, 32, 3, 3, 0, 0, [(0, 0)]) := rfl
theorem tX3_copyFrom_32 : tbX3_copyFrom 32 = (.aload_n 0, 33, 0, 0, 0, 0, []) := rfl
theorem tX3_copyFrom_33 : tbX3_copyFrom 33 = (.aload_n 1, 34, 0, 0, 0, 0, []) := rfl
theorem tX3_copyFrom_34 : tbX3_copyFrom 34 = (.getfield 23, 37, 3, 4, 0, 0, []) := rfl
theorem tX3_copyFrom_37 : tbX3_copyFrom 37 = (.putfield 23, 40, 3, 4, 0, 0, [(0, 0)]) := rfl
theorem tX3_copyFrom_40 : tbX3_copyFrom 40 = (.aload_n 0, 41, 0, 0, 0, 0, []) := rfl
theorem tX3_copyFrom_41 : tbX3_copyFrom 41 = (.aload_n 1, 42, 0, 0, 0, 0, []) := rfl
theorem tX3_copyFrom_42 : tbX3_copyFrom 42 = (.getfield 26, 45, 3, 5, 0, 0, []) := rfl
theorem tX3_copyFrom_45 : tbX3_copyFrom 45 = (.putfield 26, 48, 3, 5, 0, 0, []) := rfl
theorem tX3_copyFrom_48 : tbX3_copyFrom 48 = (.aload_n 0, 49, 0, 0, 0, 0, []) := rfl
theorem tX3_copyFrom_49 : tbX3_copyFrom 49 = (.aload_n 1, 50, 0, 0, 0, 0, []) := rfl
theorem tX3_copyFrom_50 : tbX3_copyFrom 50 = (.getfield 29, 53, 3, 6, 0, 0, []) := rfl
theorem tX3_copyFrom_53 : tbX3_copyFrom 53 = (.putfield 29, 56, 3, 6, 0, 0, []) := rfl
theorem tX3_copyFrom_56 : tbX3_copyFrom 56 = (.aload_n 0, 57, 0, 0, 0, 0, []) := rfl
theorem tX3_copyFrom_57 : tbX3_copyFrom 57 = (.aload_n 1, 58, 0, 0, 0, 0, []) := rfl
theorem tX3_copyFrom_58 : tbX3_copyFrom 58 = (.getfield 32, 61, 3, 7, 0, 0, []) := rfl
theorem tX3_copyFrom_61 : tbX3_copyFrom 61 = (.putfield 32, 64, 3, 7, 0, 0, []) := rfl
theorem tX3_copyFrom_64 : tbX3_copyFrom 64 = (.aload_n 0, 65, 0, 0, 0, 0, []) := rfl
theorem tX3_copyFrom_65 : tbX3_copyFrom 65 = (.aload_n 1, 66, 0, 0, 0, 0, []) := rfl
theorem tX3_copyFrom_66 : tbX3_copyFrom 66 = (.getfield 35, 69, 3, 8, 0, 0, []) := rfl
theorem tX3_copyFrom_69 : tbX3_copyFrom 69 = (.putfield 35, 72, 3, 8, 0, 0, []) := rfl
theorem tX3_copyFrom_72 : tbX3_copyFrom 72 = (.aload_n 0, 73, 0, 0, 0, 0, []) := rfl
theorem tX3_copyFrom_73 : tbX3_copyFrom 73 = (.aload_n 1, 74, 0, 0, 0, 0, []) := rfl
theorem tX3_copyFrom_74 : tbX3_copyFrom 74 = (.getfield 38, 77, 3, 9, 0, 0, []) := rfl
theorem tX3_copyFrom_77 : tbX3_copyFrom 77 = (.putfield 38, 80, 3, 9, 0, 0, []) := rfl
theorem tX3_copyFrom_80 : tbX3_copyFrom 80 = (.aload_n 0, 81, 0, 0, 0, 0, []) := rfl
theorem tX3_copyFrom_81 : tbX3_copyFrom 81 = (.aload_n 1, 82, 0, 0, 0, 0, []) := rfl
theorem tX3_copyFrom_82 : tbX3_copyFrom 82 = (.getfield 41, 85, 3, 10, 0, 0, []) := rfl
theorem tX3_copyFrom_85 : tbX3_copyFrom 85 = (.putfield 41, 88, 3, 10, 0, 0, []) := rfl
theorem tX3_copyFrom_88 : tbX3_copyFrom 88 = (.aload_n 0, 89, 0, 0, 0, 0, []) := rfl
theorem tX3_copyFrom_89 : tbX3_copyFrom 89 = (.aload_n 1, 90, 0, 0, 0, 0, []) := rfl
theorem tX3_copyFrom_90 : tbX3_copyFrom 90 = (.getfield 44, 93, 3, 11, 0, 0, []) := rfl
theorem tX3_copyFrom_93 : tbX3_copyFrom 93 = (.putfield 44, 96, 3, 11, 0, 0, []) := rfl
theorem tX3_copyFrom_96 : tbX3_copyFrom 96 = (.return_, 97, 0, 0, 0, 0, []) := rfl
def ltX4_init : List (Nat × pm_E) := [(0, .aload_n 0, 1, 0, 0, 0, 0, []), (4, .aload_n 0, 5, 0, 0, 0, 0, []), (8, .dup, 9, 0, 0, 0, 0, []), (15, .return_, 16, 0, 0, 0, 0, [])]
def tbX4_init : Nat → pm_E := pm_lk ltX4_init
theorem okX4_init : ∀ pc, (tbX4_init pc).1 = .nop ∨ pm_ok mX4_init pw_Ms pc (tbX4_init pc) := pm_lk_ok (by decide +kernel)
theorem nr_X4_init : mX4_init.2.2.2 = none := rfl
theorem tX4_init_0 : tbX4_init 0 = (.aload_n 0, 1, 0, 0, 0, 0, []) := rfl
theorem tX4_init_4 : tbX4_init 4 = (.aload_n 0, 5, 0, 0, 0, 0, []) := rfl
theorem tX4_init_8 : tbX4_init 8 = (.dup, 9, 0, 0, 0, 0, []) := rfl
theorem tX4_init_15 : tbX4_init 15 = (.return_, 16, 0, 0, 0, 0, []) := rfl
def ltX4_copyFrom : List (Nat × pm_E) := [(0, .aload_n 0, 1, 0, 0, 0, 0, []), (1, .getfield 10, 4, 4, 0, 0, 0, [(0, 0)]), (4, .aload_n 1, 5, 0, 0, 0, 0, []), (5, .getfield 10, 8, 4, 0, 0, 0, [(0, 0)]), (8, .invokevirtual 16, 11, 64, 1, 5, 0, []), (11, .aload_n 0, 12, 0, 0, 0, 0, []), (12, .aload_n 1, 13, 0, 0, 0, 0, []), (13, .getfield 20, 16, 4, 1, 0, 0, []), (16, .putfield 20, 19, 4, 1, 0, 0, []), (19, .aload_n 0, 20, 0, 0, 0, 0, []), (20, .aload_n 1, 21, 0, 0, 0, 0, []), (21, .getfield 24, 24, 4, 2, 0, 0, []), (24, .putfield 24, 27, 4, 2, 0, 0, [(0, 0)]), (27, .aload_n 0, 28, 0, 0, 0, 0, []), (28, .aload_n 1, 29, 0, 0, 0, 0, []), (29, .getfield 28, 32, 4, 3, 0, 0, []), (32, .putfield 28, 35, 4, 3, 0, 0, []), (35, .return_, 36, 0, 0, 0, 0, [])]
def tbX4_copyFrom : Nat → pm_E := pm_lk ltX4_copyFrom
theorem okX4_copyFrom : ∀ pc, (tbX4_copyFrom pc).1 = .nop ∨ pm_ok mX4_copyFrom pw_Ms pc (tbX4_copyFrom pc) := pm_lk_ok (by decide +kernel)
theorem nr_X4_copyFrom : mX4_copyFrom.2.2.2 = none := rfl
theorem tX4_copyFrom_0 : tbX4_copyFrom 0 = (.aload_n 0, 1, 0, 0, 0, 0, []) := rfl
theorem tX4_copyFrom_1 : tbX4_copyFrom 1 = (.getfield 10, 4, 4, 0, 0, 0, [(0, 0)]) := rfl
theorem tX4_copyFrom_4 : tbX4_copyFrom 4 = (.aload_n 1, 5, 0, 0, 0, 0, []) := rfl
theorem tX4_copyFrom_5 : tbX4_copyFrom 5 = (.getfield 10, 8, 4, 0, 0, 0, [(0, 0)]) := rfl
theorem tX4_copyFrom_8 : tbX4_copyFrom 8 = (.invokevirtual 16, 11, 64, 1, 5, 0, []) := rfl
theorem tX4_copyFrom_11 : tbX4_copyFrom 11 = (.aload_n 0, 12, 0, 0, 0, 0, []) := rfl
theorem tX4_copyFrom_12 : tbX4_copyFrom 12 = (.aload_n 1, 13, 0, 0, 0, 0, []) := rfl
theorem tX4_copyFrom_13 : tbX4_copyFrom 13 = (.getfield 20, 16, 4, 1, 0, 0, []) := rfl
theorem tX4_copyFrom_16 : tbX4_copyFrom 16 = (.putfield 20, 19, 4, 1, 0, 0, []) := rfl
theorem tX4_copyFrom_19 : tbX4_copyFrom 19 = (.aload_n 0, 20, 0, 0, 0, 0, []) := rfl
theorem tX4_copyFrom_20 : tbX4_copyFrom 20 = (.aload_n 1, 21, 0, 0, 0, 0, []) := rfl
theorem tX4_copyFrom_21 : tbX4_copyFrom 21 = (.getfield 24, 24, 4, 2, 0, 0, []) := rfl
theorem tX4_copyFrom_24 : tbX4_copyFrom 24 = (.putfield 24, 27, 4, 2, 0, 0, [(0, 0)]) := rfl
theorem tX4_copyFrom_27 : tbX4_copyFrom 27 = (.aload_n 0, 28, 0, 0, 0, 0, []) := rfl
theorem tX4_copyFrom_28 : tbX4_copyFrom 28 = (.aload_n 1, 29, 0, 0, 0, 0, []) := rfl
theorem tX4_copyFrom_29 : tbX4_copyFrom 29 = (.getfield 28, 32, 4, 3, 0, 0, []) := rfl
theorem tX4_copyFrom_32 : tbX4_copyFrom 32 = (.putfield 28, 35, 4, 3, 0, 0, []) := rfl
theorem tX4_copyFrom_35 : tbX4_copyFrom 35 = (.return_, 36, 0, 0, 0, 0, []) := rfl
def ltX5_init : List (Nat × pm_E) := [(0, .aload_n 0, 1, 0, 0, 0, 0, []), (4, .aload_n 0, 5, 0, 0, 0, 0, []), (5, .bipush 21, 7, 0, 0, 0, 21, []), (12, .return_, 13, 0, 0, 0, 0, [])]
def tbX5_init : Nat → pm_E := pm_lk ltX5_init
theorem okX5_init : ∀ pc, (tbX5_init pc).1 = .nop ∨ pm_ok mX5_init pw_Ms pc (tbX5_init pc) := pm_lk_ok (by decide +kernel)
theorem nr_X5_init : mX5_init.2.2.2 = none := rfl
theorem tX5_init_0 : tbX5_init 0 = (.aload_n 0, 1, 0, 0, 0, 0, []) := rfl
theorem tX5_init_4 : tbX5_init 4 = (.aload_n 0, 5, 0, 0, 0, 0, []) := rfl
theorem tX5_init_5 : tbX5_init 5 = (.bipush 21, 7, 0, 0, 0, 21, []) := rfl
theorem tX5_init_12 : tbX5_init 12 = (.return_, 13, 0, 0, 0, 0, []) := rfl
def ltX5_get : List (Nat × pm_E) := [(0, .iload_n 1, 1, 0, 0, 0, 0, []), (1, .ifCond .lt 20, 4, 21, 0, 0, 0, []), (4, .iload_n 1, 5, 0, 0, 0, 0, []), (5, .aload_n 0, 6, 0, 0, 0, 0, []), (6, .getfield 15, 9, 5, 1, 0, 0, []), (9, .if_icmp .ge 12, 12, 21, 0, 0, 0, []), (12, .aload_n 0, 13, 0, 0, 0, 0, []), (13, .getfield 9, 16, 5, 0, 0, 0, [(0, 0)]), (16, .iload_n 1, 17, 0, 0, 0, 0, []), (17, .iaload, 18, 0, 0, 0, 0, []), (18, .goto 4, 21, 22, 0, 0, 0, []), (21, .iconst (-1), 22, 0, 0, 0, -1, []), (22, .ireturn, 23, 0, 0, 0, 0, [])]
def tbX5_get : Nat → pm_E := pm_lk ltX5_get
theorem okX5_get : ∀ pc, (tbX5_get pc).1 = .nop ∨ pm_ok mX5_get pw_Ms pc (tbX5_get pc) := pm_lk_ok (by decide +kernel)
theorem nr_X5_get : mX5_get.2.2.2 = (some .int) := rfl
theorem tX5_get_0 : tbX5_get 0 = (.iload_n 1, 1, 0, 0, 0, 0, []) := rfl
theorem tX5_get_1 : tbX5_get 1 = (.ifCond .lt 20, 4, 21, 0, 0, 0, []) := rfl
theorem tX5_get_4 : tbX5_get 4 = (.iload_n 1, 5, 0, 0, 0, 0, []) := rfl
theorem tX5_get_5 : tbX5_get 5 = (.aload_n 0, 6, 0, 0, 0, 0, []) := rfl
theorem tX5_get_6 : tbX5_get 6 = (.getfield 15, 9, 5, 1, 0, 0, []) := rfl
theorem tX5_get_9 : tbX5_get 9 = (.if_icmp .ge 12, 12, 21, 0, 0, 0, []) := rfl
theorem tX5_get_12 : tbX5_get 12 = (.aload_n 0, 13, 0, 0, 0, 0, []) := rfl
theorem tX5_get_13 : tbX5_get 13 = (.getfield 9, 16, 5, 0, 0, 0, [(0, 0)]) := rfl
theorem tX5_get_16 : tbX5_get 16 = (.iload_n 1, 17, 0, 0, 0, 0, []) := rfl
theorem tX5_get_17 : tbX5_get 17 = (.iaload, 18, 0, 0, 0, 0, []) := rfl
theorem tX5_get_18 : tbX5_get 18 = (.goto 4, 21, 22, 0, 0, 0, []) := rfl
theorem tX5_get_21 : tbX5_get 21 = (.iconst (-1), 22, 0, 0, 0, -1, []) := rfl
theorem tX5_get_22 : tbX5_get 22 = (.ireturn, 23, 0, 0, 0, 0, []) := rfl
def ltX5_insert : List (Nat × pm_E) := [(0, .iload_n 1, 1, 0, 0, 0, 0, []), (1, .ifCond .lt 23, 4, 24, 0, 0, 0, []), (4, .iload_n 1, 5, 0, 0, 0, 0, []), (5, .aload_n 0, 6, 0, 0, 0, 0, []), (6, .getfield 15, 9, 5, 1, 0, 0, []), (9, .if_icmp .gt 15, 12, 24, 0, 0, 0, []), (12, .aload_n 0, 13, 0, 0, 0, 0, []), (13, .getfield 15, 16, 5, 1, 0, 0, []), (16, .aload_n 0, 17, 0, 0, 0, 0, []), (17, .getfield 9, 20, 5, 0, 0, 0, [(0, 0)]), (20, .arraylength, 21, 0, 0, 0, 0, []), (21, .if_icmp .lt 4, 24, 25, 0, 0, 0, []), (24, .return_, 25, 0, 0, 0, 0, []), (25, .aload_n 0, 26, 0, 0, 0, 0, []), (26, .getfield 15, 29, 5, 1, 0, 0, []), (29, .istore_n 3, 30, 0, 0, 0, 0, []), (30, .iload_n 3, 31, 0, 0, 0, 0, []), (31, .iload_n 1, 32, 0, 0, 0, 0, []), (32, .if_icmp .le 23, 35, 55, 0, 0, 0, []), (35, .aload_n 0, 36, 0, 0, 0, 0, []), (36, .getfield 9, 39, 5, 0, 0, 0, [(0, 0)]), (39, .iload_n 3, 40, 0, 0, 0, 0, []), (40, .aload_n 0, 41, 0, 0, 0, 0, []), (41, .getfield 9, 44, 5, 0, 0, 0, [(0, 0)]), (44, .iload_n 3, 45, 0, 0, 0, 0, []), (45, .iconst 1, 46, 0, 0, 0, 1, []), (46, .isub, 47, 0, 0, 0, 0, []), (47, .iaload, 48, 0, 0, 0, 0, []), (48, .iastore, 49, 0, 0, 0, 0, []), (49, .iinc 3 (-1), 52, 0, 0, 0, -1, []), (52, .goto (-22), 55, 30, 0, 0, 0, []), (55, .aload_n 0, 56, 0, 0, 0, 0, []), (56, .getfield 9, 59, 5, 0, 0, 0, [(0, 0)]), (59, .iload_n 1, 60, 0, 0, 0, 0, []), (60, .iload_n 2, 61, 0, 0, 0, 0, []), (61, .iastore, 62, 0, 0, 0, 0, []), (62, .aload_n 0, 63, 0, 0, 0, 0, []), (63, .dup, 64, 0, 0, 0, 0, []), (64, .getfield 15, 67, 5, 1, 0, 0, []), (67, .iconst 1, 68, 0, 0, 0, 1, []), (68, .iadd, 69, 0, 0, 0, 0, []), (69, .putfield 15, 72, 5, 1, 0, 0, []), (72, .return_, 73, 0, 0, 0, 0, [])]
def tbX5_insert : Nat → pm_E := pm_lk ltX5_insert
theorem okX5_insert : ∀ pc, (tbX5_insert pc).1 = .nop ∨ pm_ok mX5_insert pw_Ms pc (tbX5_insert pc) := pm_lk_ok (by decide +kernel)
theorem nr_X5_insert : mX5_insert.2.2.2 = none := rfl
theorem tX5_insert_0 : tbX5_insert 0 = (.iload_n 1, 1, 0, 0, 0, 0, []) := rfl
theorem tX5_insert_1 : tbX5_insert 1 = (.ifCond .lt 23, 4, 24, 0, 0, 0, []) := rfl
theorem tX5_insert_4 : tbX5_insert 4 = (.iload_n 1, 5, 0, 0, 0, 0, []) := rfl
theorem tX5_insert_5 : tbX5_insert 5 = (.aload_n 0, 6, 0, 0, 0, 0, []) := rfl
theorem tX5_insert_6 : tbX5_insert 6 = (.getfield 15, 9, 5, 1, 0, 0, []) := rfl
theorem tX5_insert_9 : tbX5_insert 9 = (.if_icmp .gt 15, 12, 24, 0, 0, 0, []) := rfl
theorem tX5_insert_12 : tbX5_insert 12 = (.aload_n 0, 13, 0, 0, 0, 0, []) := rfl
theorem tX5_insert_13 : tbX5_insert 13 = (.getfield 15, 16, 5, 1, 0, 0, []) := rfl
theorem tX5_insert_16 : tbX5_insert 16 = (.aload_n 0, 17, 0, 0, 0, 0, []) := rfl
theorem tX5_insert_17 : tbX5_insert 17 = (.getfield 9, 20, 5, 0, 0, 0, [(0, 0)]) := rfl
theorem tX5_insert_20 : tbX5_insert 20 = (.arraylength, 21, 0, 0, 0, 0, []) := rfl
theorem tX5_insert_21 : tbX5_insert 21 = (.if_icmp .lt 4, 24, 25, 0, 0, 0, []) := rfl
theorem tX5_insert_24 : tbX5_insert 24 = (.return_, 25, 0, 0, 0, 0, []) := rfl
theorem tX5_insert_25 : tbX5_insert 25 = (.aload_n 0, 26, 0, 0, 0, 0, []) := rfl
theorem tX5_insert_26 : tbX5_insert 26 = (.getfield 15, 29, 5, 1, 0, 0, []) := rfl
theorem tX5_insert_29 : tbX5_insert 29 = (.istore_n 3, 30, 0, 0, 0, 0, []) := rfl
theorem tX5_insert_30 : tbX5_insert 30 = (.iload_n 3, 31, 0, 0, 0, 0, []) := rfl
theorem tX5_insert_31 : tbX5_insert 31 = (.iload_n 1, 32, 0, 0, 0, 0, []) := rfl
theorem tX5_insert_32 : tbX5_insert 32 = (.if_icmp .le 23, 35, 55, 0, 0, 0, []) := rfl
theorem tX5_insert_35 : tbX5_insert 35 = (.aload_n 0, 36, 0, 0, 0, 0, []) := rfl
theorem tX5_insert_36 : tbX5_insert 36 = (.getfield 9, 39, 5, 0, 0, 0, [(0, 0)]) := rfl
theorem tX5_insert_39 : tbX5_insert 39 = (.iload_n 3, 40, 0, 0, 0, 0, []) := rfl
theorem tX5_insert_40 : tbX5_insert 40 = (.aload_n 0, 41, 0, 0, 0, 0, []) := rfl
theorem tX5_insert_41 : tbX5_insert 41 = (.getfield 9, 44, 5, 0, 0, 0, [(0, 0)]) := rfl
theorem tX5_insert_44 : tbX5_insert 44 = (.iload_n 3, 45, 0, 0, 0, 0, []) := rfl
theorem tX5_insert_45 : tbX5_insert 45 = (.iconst 1, 46, 0, 0, 0, 1, []) := rfl
theorem tX5_insert_46 : tbX5_insert 46 = (.isub, 47, 0, 0, 0, 0, []) := rfl
theorem tX5_insert_47 : tbX5_insert 47 = (.iaload, 48, 0, 0, 0, 0, []) := rfl
theorem tX5_insert_48 : tbX5_insert 48 = (.iastore, 49, 0, 0, 0, 0, []) := rfl
theorem tX5_insert_49 : tbX5_insert 49 = (.iinc 3 (-1), 52, 0, 0, 0, -1, []) := rfl
theorem tX5_insert_52 : tbX5_insert 52 = (.goto (-22), 55, 30, 0, 0, 0, []) := rfl
theorem tX5_insert_55 : tbX5_insert 55 = (.aload_n 0, 56, 0, 0, 0, 0, []) := rfl
theorem tX5_insert_56 : tbX5_insert 56 = (.getfield 9, 59, 5, 0, 0, 0, [(0, 0)]) := rfl
theorem tX5_insert_59 : tbX5_insert 59 = (.iload_n 1, 60, 0, 0, 0, 0, []) := rfl
theorem tX5_insert_60 : tbX5_insert 60 = (.iload_n 2, 61, 0, 0, 0, 0, []) := rfl
theorem tX5_insert_61 : tbX5_insert 61 = (.iastore, 62, 0, 0, 0, 0, []) := rfl
theorem tX5_insert_62 : tbX5_insert 62 = (.aload_n 0, 63, 0, 0, 0, 0, []) := rfl
theorem tX5_insert_63 : tbX5_insert 63 = (.dup, 64, 0, 0, 0, 0, []) := rfl
theorem tX5_insert_64 : tbX5_insert 64 = (.getfield 15, 67, 5, 1, 0, 0, []) := rfl
theorem tX5_insert_67 : tbX5_insert 67 = (.iconst 1, 68, 0, 0, 0, 1, []) := rfl
theorem tX5_insert_68 : tbX5_insert 68 = (.iadd, 69, 0, 0, 0, 0, []) := rfl
theorem tX5_insert_69 : tbX5_insert 69 = (.putfield 15, 72, 5, 1, 0, 0, []) := rfl
theorem tX5_insert_72 : tbX5_insert 72 = (.return_, 73, 0, 0, 0, 0, []) := rfl
def ltX5_remove : List (Nat × pm_E) := [(0, .iload_n 1, 1, 0, 0, 0, 0, []), (1, .ifCond .lt 11, 4, 12, 0, 0, 0, []), (4, .iload_n 1, 5, 0, 0, 0, 0, []), (5, .aload_n 0, 6, 0, 0, 0, 0, []), (6, .getfield 15, 9, 5, 1, 0, 0, []), (9, .if_icmp .lt 4, 12, 13, 0, 0, 0, []), (12, .return_, 13, 0, 0, 0, 0, []), (13, .iload_n 1, 14, 0, 0, 0, 0, []), (14, .iconst 1, 15, 0, 0, 0, 1, []), (15, .iadd, 16, 0, 0, 0, 0, []), (16, .istore_n 2, 17, 0, 0, 0, 0, []), (17, .iload_n 2, 18, 0, 0, 0, 0, []), (18, .aload_n 0, 19, 0, 0, 0, 0, []), (19, .getfield 15, 22, 5, 1, 0, 0, []), (22, .if_icmp .ge 23, 25, 45, 0, 0, 0, []), (25, .aload_n 0, 26, 0, 0, 0, 0, []), (26, .getfield 9, 29, 5, 0, 0, 0, [(0, 0)]), (29, .iload_n 2, 30, 0, 0, 0, 0, []), (30, .iconst 1, 31, 0, 0, 0, 1, []), (31, .isub, 32, 0, 0, 0, 0, []), (32, .aload_n 0, 33, 0, 0, 0, 0, []), (33, .getfield 9, 36, 5, 0, 0, 0, [(0, 0)]), (36, .iload_n 2, 37, 0, 0, 0, 0, []), (37, .iaload, 38, 0, 0, 0, 0, []), (38, .iastore, 39, 0, 0, 0, 0, []), (39, .iinc 2 1, 42, 0, 0, 0, 1, []), (42, .goto (-25), 45, 17, 0, 0, 0, []), (45, .aload_n 0, 46, 0, 0, 0, 0, []), (46, .dup, 47, 0, 0, 0, 0, []), (47, .getfield 15, 50, 5, 1, 0, 0, []), (50, .iconst 1, 51, 0, 0, 0, 1, []), (51, .isub, 52, 0, 0, 0, 0, []), (52, .putfield 15, 55, 5, 1, 0, 0, []), (55, .return_, 56, 0, 0, 0, 0, [])]
def tbX5_remove : Nat → pm_E := pm_lk ltX5_remove
theorem okX5_remove : ∀ pc, (tbX5_remove pc).1 = .nop ∨ pm_ok mX5_remove pw_Ms pc (tbX5_remove pc) := pm_lk_ok (by decide +kernel)
theorem nr_X5_remove : mX5_remove.2.2.2 = none := rfl
theorem tX5_remove_0 : tbX5_remove 0 = (.iload_n 1, 1, 0, 0, 0, 0, []) := rfl
theorem tX5_remove_1 : tbX5_remove 1 = (.ifCond .lt 11, 4, 12, 0, 0, 0, []) := rfl
theorem tX5_remove_4 : tbX5_remove 4 = (.iload_n 1, 5, 0, 0, 0, 0, []) := rfl
theorem tX5_remove_5 : tbX5_remove 5 = (.aload_n 0, 6, 0, 0, 0, 0, []) := rfl
theorem tX5_remove_6 : tbX5_remove 6 = (.getfield 15, 9, 5, 1, 0, 0, []) := rfl
theorem tX5_remove_9 : tbX5_remove 9 = (.if_icmp .lt 4, 12, 13, 0, 0, 0, []) := rfl
theorem tX5_remove_12 : tbX5_remove 12 = (.return_, 13, 0, 0, 0, 0, []) := rfl
theorem tX5_remove_13 : tbX5_remove 13 = (.iload_n 1, 14, 0, 0, 0, 0, []) := rfl
theorem tX5_remove_14 : tbX5_remove 14 = (.iconst 1, 15, 0, 0, 0, 1, []) := rfl
theorem tX5_remove_15 : tbX5_remove 15 = (.iadd, 16, 0, 0, 0, 0, []) := rfl
theorem tX5_remove_16 : tbX5_remove 16 = (.istore_n 2, 17, 0, 0, 0, 0, []) := rfl
theorem tX5_remove_17 : tbX5_remove 17 = (.iload_n 2, 18, 0, 0, 0, 0, []) := rfl
theorem tX5_remove_18 : tbX5_remove 18 = (.aload_n 0, 19, 0, 0, 0, 0, []) := rfl
theorem tX5_remove_19 : tbX5_remove 19 = (.getfield 15, 22, 5, 1, 0, 0, []) := rfl
theorem tX5_remove_22 : tbX5_remove 22 = (.if_icmp .ge 23, 25, 45, 0, 0, 0, []) := rfl
theorem tX5_remove_25 : tbX5_remove 25 = (.aload_n 0, 26, 0, 0, 0, 0, []) := rfl
theorem tX5_remove_26 : tbX5_remove 26 = (.getfield 9, 29, 5, 0, 0, 0, [(0, 0)]) := rfl
theorem tX5_remove_29 : tbX5_remove 29 = (.iload_n 2, 30, 0, 0, 0, 0, []) := rfl
theorem tX5_remove_30 : tbX5_remove 30 = (.iconst 1, 31, 0, 0, 0, 1, []) := rfl
theorem tX5_remove_31 : tbX5_remove 31 = (.isub, 32, 0, 0, 0, 0, []) := rfl
theorem tX5_remove_32 : tbX5_remove 32 = (.aload_n 0, 33, 0, 0, 0, 0, []) := rfl
theorem tX5_remove_33 : tbX5_remove 33 = (.getfield 9, 36, 5, 0, 0, 0, [(0, 0)]) := rfl
theorem tX5_remove_36 : tbX5_remove 36 = (.iload_n 2, 37, 0, 0, 0, 0, []) := rfl
theorem tX5_remove_37 : tbX5_remove 37 = (.iaload, 38, 0, 0, 0, 0, []) := rfl
theorem tX5_remove_38 : tbX5_remove 38 = (.iastore, 39, 0, 0, 0, 0, []) := rfl
theorem tX5_remove_39 : tbX5_remove 39 = (.iinc 2 1, 42, 0, 0, 0, 1, []) := rfl
theorem tX5_remove_42 : tbX5_remove 42 = (.goto (-25), 45, 17, 0, 0, 0, []) := rfl
theorem tX5_remove_45 : tbX5_remove 45 = (.aload_n 0, 46, 0, 0, 0, 0, []) := rfl
theorem tX5_remove_46 : tbX5_remove 46 = (.dup, 47, 0, 0, 0, 0, []) := rfl
theorem tX5_remove_47 : tbX5_remove 47 = (.getfield 15, 50, 5, 1, 0, 0, []) := rfl
theorem tX5_remove_50 : tbX5_remove 50 = (.iconst 1, 51, 0, 0, 0, 1, []) := rfl
theorem tX5_remove_51 : tbX5_remove 51 = (.isub, 52, 0, 0, 0, 0, []) := rfl
theorem tX5_remove_52 : tbX5_remove 52 = (.putfield 15, 55, 5, 1, 0, 0, []) := rfl
theorem tX5_remove_55 : tbX5_remove 55 = (.return_, 56, 0, 0, 0, 0, []) := rfl
def ltX5_moveBehind : List (Nat × pm_E) := [(0, .iconst 0, 1, 0, 0, 0, 0, []), (1, .istore_n 2, 2, 0, 0, 0, 0, []), (2, .iload_n 2, 3, 0, 0, 0, 0, []), (3, .aload_n 0, 4, 0, 0, 0, 0, []), (4, .getfield 15, 7, 5, 1, 0, 0, []), (7, .if_icmp .ge 34, 10, 41, 0, 0, 0, []), (10, .aload_n 0, 11, 0, 0, 0, 0, []), (11, .getfield 9, 14, 5, 0, 0, 0, [(0, 0)]), (14, .iload_n 2, 15, 0, 0, 0, 0, []), (15, .iaload, 16, 0, 0, 0, 0, []), (16, .iload_n 1, 17, 0, 0, 0, 0, []), (17, .if_icmp .ne 18, 20, 35, 0, 0, 0, []), (20, .aload_n 0, 21, 0, 0, 0, 0, []), (21, .iload_n 2, 22, 0, 0, 0, 0, []), (22, .invokevirtual 19, 25, 62, 1, 5, 0, []), (25, .aload_n 0, 26, 0, 0, 0, 0, []), (26, .aload_n 0, 27, 0, 0, 0, 0, []), (27, .getfield 15, 30, 5, 1, 0, 0, []), (30, .iload_n 1, 31, 0, 0, 0, 0, []), (31, .invokevirtual 23, 34, 61, 2, 5, 0, []), (34, .return_, 35, 0, 0, 0, 0, []), (35, .iinc 2 1, 38, 0, 0, 0, 1, []), (38, .goto (-36), 41, 2, 0, 0, 0, []), (41, .return_, 42, 0, 0, 0, 0, [])]
def tbX5_moveBehind : Nat → pm_E := pm_lk ltX5_moveBehind
theorem okX5_moveBehind : ∀ pc, (tbX5_moveBehind pc).1 = .nop ∨ pm_ok mX5_moveBehind pw_Ms pc (tbX5_moveBehind pc) := pm_lk_ok (by decide +kernel)
theorem nr_X5_moveBehind : mX5_moveBehind.2.2.2 = none := rfl
theorem tX5_moveBehind_0 : tbX5_moveBehind 0 = (.iconst 0, 1, 0, 0, 0, 0, []) := rfl
theorem tX5_moveBehind_1 : tbX5_moveBehind 1 = (.istore_n 2, 2, 0, 0, 0, 0, []) := rfl
theorem tX5_moveBehind_2 : tbX5_moveBehind 2 = (.iload_n 2, 3, 0, 0, 0, 0, []) := rfl
theorem tX5_moveBehind_3 : tbX5_moveBehind 3 = (.aload_n 0, 4, 0, 0, 0, 0, []) := rfl
theorem tX5_moveBehind_4 : tbX5_moveBehind 4 = (.getfield 15, 7, 5, 1, 0, 0, []) := rfl
theorem tX5_moveBehind_7 : tbX5_moveBehind 7 = (.if_icmp .ge 34, 10, 41, 0, 0, 0, []) := rfl
theorem tX5_moveBehind_10 : tbX5_moveBehind 10 = (.aload_n 0, 11, 0, 0, 0, 0, []) := rfl
theorem tX5_moveBehind_11 : tbX5_moveBehind 11 = (.getfield 9, 14, 5, 0, 0, 0, [(0, 0)]) := rfl
theorem tX5_moveBehind_14 : tbX5_moveBehind 14 = (.iload_n 2, 15, 0, 0, 0, 0, []) := rfl
theorem tX5_moveBehind_15 : tbX5_moveBehind 15 = (.iaload, 16, 0, 0, 0, 0, []) := rfl
theorem tX5_moveBehind_16 : tbX5_moveBehind 16 = (.iload_n 1, 17, 0, 0, 0, 0, []) := rfl
theorem tX5_moveBehind_17 : tbX5_moveBehind 17 = (.if_icmp .ne 18, 20, 35, 0, 0, 0, []) := rfl
theorem tX5_moveBehind_20 : tbX5_moveBehind 20 = (.aload_n 0, 21, 0, 0, 0, 0, []) := rfl
theorem tX5_moveBehind_21 : tbX5_moveBehind 21 = (.iload_n 2, 22, 0, 0, 0, 0, []) := rfl
theorem tX5_moveBehind_22 : tbX5_moveBehind 22 = (.invokevirtual 19, 25, 62, 1, 5, 0, []) := rfl
theorem tX5_moveBehind_25 : tbX5_moveBehind 25 = (.aload_n 0, 26, 0, 0, 0, 0, []) := rfl
theorem tX5_moveBehind_26 : tbX5_moveBehind 26 = (.aload_n 0, 27, 0, 0, 0, 0, []) := rfl
theorem tX5_moveBehind_27 : tbX5_moveBehind 27 = (.getfield 15, 30, 5, 1, 0, 0, []) := rfl
theorem tX5_moveBehind_30 : tbX5_moveBehind 30 = (.iload_n 1, 31, 0, 0, 0, 0, []) := rfl
theorem tX5_moveBehind_31 : tbX5_moveBehind 31 = (.invokevirtual 23, 34, 61, 2, 5, 0, []) := rfl
theorem tX5_moveBehind_34 : tbX5_moveBehind 34 = (.return_, 35, 0, 0, 0, 0, []) := rfl
theorem tX5_moveBehind_35 : tbX5_moveBehind 35 = (.iinc 2 1, 38, 0, 0, 0, 1, []) := rfl
theorem tX5_moveBehind_38 : tbX5_moveBehind 38 = (.goto (-36), 41, 2, 0, 0, 0, []) := rfl
theorem tX5_moveBehind_41 : tbX5_moveBehind 41 = (.return_, 42, 0, 0, 0, 0, []) := rfl
def ltX5_copyFrom : List (Nat × pm_E) := [(0, .aload_n 1, 1, 0, 0, 0, 0, []), (1, .getfield 9, 4, 5, 0, 0, 0, [(0, 0)]), (4, .iconst 0, 5, 0, 0, 0, 0, []), (5, .aload_n 0, 6, 0, 0, 0, 0, []), (6, .getfield 9, 9, 5, 0, 0, 0, [(0, 0)]), (9, .iconst 0, 10, 0, 0, 0, 0, []), (10, .aload_n 0, 11, 0, 0, 0, 0, []), (11, .getfield 9, 14, 5, 0, 0, 0, [(0, 0)]), (14, .arraylength, 15, 0, 0, 0, 0, []), (18, .aload_n 0, 19, 0, 0, 0, 0, []), (19, .aload_n 1, 20, 0, 0, 0, 0, []), (20, .getfield 15, 23, 5, 1, 0, 0, []), (23, .putfield 15, 26, 5, 1, 0, 0, []), (26, .return_, 27, 0, 0, 0, 0, [])]
def tbX5_copyFrom : Nat → pm_E := pm_lk ltX5_copyFrom
theorem okX5_copyFrom : ∀ pc, (tbX5_copyFrom pc).1 = .nop ∨ pm_ok mX5_copyFrom pw_Ms pc (tbX5_copyFrom pc) := pm_lk_ok (by decide +kernel)
theorem nr_X5_copyFrom : mX5_copyFrom.2.2.2 = none := rfl
theorem tX5_copyFrom_0 : tbX5_copyFrom 0 = (.aload_n 1, 1, 0, 0, 0, 0, []) := rfl
theorem tX5_copyFrom_1 : tbX5_copyFrom 1 = (.getfield 9, 4, 5, 0, 0, 0, [(0, 0)]) := rfl
theorem tX5_copyFrom_4 : tbX5_copyFrom 4 = (.iconst 0, 5, 0, 0, 0, 0, []) := rfl
theorem tX5_copyFrom_5 : tbX5_copyFrom 5 = (.aload_n 0, 6, 0, 0, 0, 0, []) := rfl
theorem tX5_copyFrom_6 : tbX5_copyFrom 6 = (.getfield 9, 9, 5, 0, 0, 0, [(0, 0)]) := rfl
theorem tX5_copyFrom_9 : tbX5_copyFrom 9 = (.iconst 0, 10, 0, 0, 0, 0, []) := rfl
theorem tX5_copyFrom_10 : tbX5_copyFrom 10 = (.aload_n 0, 11, 0, 0, 0, 0, []) := rfl
theorem tX5_copyFrom_11 : tbX5_copyFrom 11 = (.getfield 9, 14, 5, 0, 0, 0, [(0, 0)]) := rfl
theorem tX5_copyFrom_14 : tbX5_copyFrom 14 = (.arraylength, 15, 0, 0, 0, 0, []) := rfl
theorem tX5_copyFrom_18 : tbX5_copyFrom 18 = (.aload_n 0, 19, 0, 0, 0, 0, []) := rfl
theorem tX5_copyFrom_19 : tbX5_copyFrom 19 = (.aload_n 1, 20, 0, 0, 0, 0, []) := rfl
theorem tX5_copyFrom_20 : tbX5_copyFrom 20 = (.getfield 15, 23, 5, 1, 0, 0, []) := rfl
theorem tX5_copyFrom_23 : tbX5_copyFrom 23 = (.putfield 15, 26, 5, 1, 0, 0, []) := rfl
theorem tX5_copyFrom_26 : tbX5_copyFrom 26 = (.return_, 27, 0, 0, 0, 0, []) := rfl
def ltX6_init : List (Nat × pm_E) := [(0, .aload_n 0, 1, 0, 0, 0, 0, []), (4, .aload_n 0, 5, 0, 0, 0, 0, []), (8, .dup, 9, 0, 0, 0, 0, []), (15, .aload_n 0, 16, 0, 0, 0, 0, []), (19, .dup, 20, 0, 0, 0, 0, []), (26, .aload_n 0, 27, 0, 0, 0, 0, []), (30, .dup, 31, 0, 0, 0, 0, []), (37, .aload_n 0, 38, 0, 0, 0, 0, []), (41, .dup, 42, 0, 0, 0, 0, []), (48, .return_, 49, 0, 0, 0, 0, [])]
def tbX6_init : Nat → pm_E := pm_lk ltX6_init
theorem okX6_init : ∀ pc, (tbX6_init pc).1 = .nop ∨ pm_ok mX6_init pw_Ms pc (tbX6_init pc) := pm_lk_ok (by decide +kernel)
theorem nr_X6_init : mX6_init.2.2.2 = none := rfl
theorem tX6_init_0 : tbX6_init 0 = (.aload_n 0, 1, 0, 0, 0, 0, []) := rfl
theorem tX6_init_4 : tbX6_init 4 = (.aload_n 0, 5, 0, 0, 0, 0, []) := rfl
theorem tX6_init_8 : tbX6_init 8 = (.dup, 9, 0, 0, 0, 0, []) := rfl
theorem tX6_init_15 : tbX6_init 15 = (.aload_n 0, 16, 0, 0, 0, 0, []) := rfl
theorem tX6_init_19 : tbX6_init 19 = (.dup, 20, 0, 0, 0, 0, []) := rfl
theorem tX6_init_26 : tbX6_init 26 = (.aload_n 0, 27, 0, 0, 0, 0, []) := rfl
theorem tX6_init_30 : tbX6_init 30 = (.dup, 31, 0, 0, 0, 0, []) := rfl
theorem tX6_init_37 : tbX6_init 37 = (.aload_n 0, 38, 0, 0, 0, 0, []) := rfl
theorem tX6_init_41 : tbX6_init 41 = (.dup, 42, 0, 0, 0, 0, []) := rfl
theorem tX6_init_48 : tbX6_init 48 = (.return_, 49, 0, 0, 0, 0, []) := rfl
def ltX6_node : List (Nat × pm_E) := [(0, .aload_n 0, 1, 0, 0, 0, 0, []), (1, .getfield 22, 4, 6, 2, 0, 0, [(0, 0)]), (4, .aload_n 0, 5, 0, 0, 0, 0, []), (5, .getfield 12, 8, 6, 0, 0, 0, [(0, 0)]), (8, .invokevirtual 33, 11, 51, 1, 2, 0, []), (11, .aload_n 0, 12, 0, 0, 0, 0, []), (12, .getfield 22, 15, 6, 2, 0, 0, [(0, 0)]), (15, .aload_n 0, 16, 0, 0, 0, 0, []), (16, .getfield 12, 19, 6, 0, 0, 0, [(0, 0)]), (19, .iload_n 1, 20, 0, 0, 0, 0, []), (20, .iload_n 2, 21, 0, 0, 0, 0, []), (21, .invokevirtual 37, 24, 4, 2, 0, 0, []), (24, .invokevirtual 41, 27, 52, 1, 2, 0, []), (27, .ireturn, 28, 0, 0, 0, 0, [])]
def tbX6_node : Nat → pm_E := pm_lk ltX6_node
theorem okX6_node : ∀ pc, (tbX6_node pc).1 = .nop ∨ pm_ok mX6_node pw_Ms pc (tbX6_node pc) := pm_lk_ok (by decide +kernel)
theorem nr_X6_node : mX6_node.2.2.2 = (some .int) := rfl
theorem tX6_node_0 : tbX6_node 0 = (.aload_n 0, 1, 0, 0, 0, 0, []) := rfl
theorem tX6_node_1 : tbX6_node 1 = (.getfield 22, 4, 6, 2, 0, 0, [(0, 0)]) := rfl
theorem tX6_node_4 : tbX6_node 4 = (.aload_n 0, 5, 0, 0, 0, 0, []) := rfl
theorem tX6_node_5 : tbX6_node 5 = (.getfield 12, 8, 6, 0, 0, 0, [(0, 0)]) := rfl
theorem tX6_node_8 : tbX6_node 8 = (.invokevirtual 33, 11, 51, 1, 2, 0, []) := rfl
theorem tX6_node_11 : tbX6_node 11 = (.aload_n 0, 12, 0, 0, 0, 0, []) := rfl
theorem tX6_node_12 : tbX6_node 12 = (.getfield 22, 15, 6, 2, 0, 0, [(0, 0)]) := rfl
theorem tX6_node_15 : tbX6_node 15 = (.aload_n 0, 16, 0, 0, 0, 0, []) := rfl
theorem tX6_node_16 : tbX6_node 16 = (.getfield 12, 19, 6, 0, 0, 0, [(0, 0)]) := rfl
theorem tX6_node_19 : tbX6_node 19 = (.iload_n 1, 20, 0, 0, 0, 0, []) := rfl
theorem tX6_node_20 : tbX6_node 20 = (.iload_n 2, 21, 0, 0, 0, 0, []) := rfl
theorem tX6_node_21 : tbX6_node 21 = (.invokevirtual 37, 24, 4, 2, 0, 0, []) := rfl
theorem tX6_node_24 : tbX6_node 24 = (.invokevirtual 41, 27, 52, 1, 2, 0, []) := rfl
theorem tX6_node_27 : tbX6_node 27 = (.ireturn, 28, 0, 0, 0, 0, []) := rfl
def ltX6_line : List (Nat × pm_E) := [(0, .aload_n 0, 1, 0, 0, 0, 0, []), (1, .getfield 22, 4, 6, 2, 0, 0, [(0, 0)]), (4, .aload_n 0, 5, 0, 0, 0, 0, []), (5, .getfield 12, 8, 6, 0, 0, 0, [(0, 0)]), (8, .invokevirtual 33, 11, 51, 1, 2, 0, []), (11, .aload_n 0, 12, 0, 0, 0, 0, []), (12, .getfield 22, 15, 6, 2, 0, 0, [(0, 0)]), (15, .aload_n 0, 16, 0, 0, 0, 0, []), (16, .getfield 12, 19, 6, 0, 0, 0, [(0, 0)]), (19, .iload_n 1, 20, 0, 0, 0, 0, []), (20, .iload_n 2, 21, 0, 0, 0, 0, []), (21, .iload_n 3, 22, 0, 0, 0, 0, []), (22, .invokevirtual 45, 25, 5, 3, 0, 0, []), (25, .invokevirtual 41, 28, 52, 1, 2, 0, []), (28, .ireturn, 29, 0, 0, 0, 0, [])]
def tbX6_line : Nat → pm_E := pm_lk ltX6_line
theorem okX6_line : ∀ pc, (tbX6_line pc).1 = .nop ∨ pm_ok mX6_line pw_Ms pc (tbX6_line pc) := pm_lk_ok (by decide +kernel)
theorem nr_X6_line : mX6_line.2.2.2 = (some .int) := rfl
theorem tX6_line_0 : tbX6_line 0 = (.aload_n 0, 1, 0, 0, 0, 0, []) := rfl
theorem tX6_line_1 : tbX6_line 1 = (.getfield 22, 4, 6, 2, 0, 0, [(0, 0)]) := rfl
theorem tX6_line_4 : tbX6_line 4 = (.aload_n 0, 5, 0, 0, 0, 0, []) := rfl
theorem tX6_line_5 : tbX6_line 5 = (.getfield 12, 8, 6, 0, 0, 0, [(0, 0)]) := rfl
theorem tX6_line_8 : tbX6_line 8 = (.invokevirtual 33, 11, 51, 1, 2, 0, []) := rfl
theorem tX6_line_11 : tbX6_line 11 = (.aload_n 0, 12, 0, 0, 0, 0, []) := rfl
theorem tX6_line_12 : tbX6_line 12 = (.getfield 22, 15, 6, 2, 0, 0, [(0, 0)]) := rfl
theorem tX6_line_15 : tbX6_line 15 = (.aload_n 0, 16, 0, 0, 0, 0, []) := rfl
theorem tX6_line_16 : tbX6_line 16 = (.getfield 12, 19, 6, 0, 0, 0, [(0, 0)]) := rfl
theorem tX6_line_19 : tbX6_line 19 = (.iload_n 1, 20, 0, 0, 0, 0, []) := rfl
theorem tX6_line_20 : tbX6_line 20 = (.iload_n 2, 21, 0, 0, 0, 0, []) := rfl
theorem tX6_line_21 : tbX6_line 21 = (.iload_n 3, 22, 0, 0, 0, 0, []) := rfl
theorem tX6_line_22 : tbX6_line 22 = (.invokevirtual 45, 25, 5, 3, 0, 0, []) := rfl
theorem tX6_line_25 : tbX6_line 25 = (.invokevirtual 41, 28, 52, 1, 2, 0, []) := rfl
theorem tX6_line_28 : tbX6_line 28 = (.ireturn, 29, 0, 0, 0, 0, []) := rfl
def ltX6_mask : List (Nat × pm_E) := [(0, .aload_n 0, 1, 0, 0, 0, 0, []), (1, .getfield 22, 4, 6, 2, 0, 0, [(0, 0)]), (4, .aload_n 0, 5, 0, 0, 0, 0, []), (5, .getfield 12, 8, 6, 0, 0, 0, [(0, 0)]), (8, .invokevirtual 33, 11, 51, 1, 2, 0, []), (11, .aload_n 0, 12, 0, 0, 0, 0, []), (12, .getfield 22, 15, 6, 2, 0, 0, [(0, 0)]), (15, .aload_n 0, 16, 0, 0, 0, 0, []), (16, .getfield 12, 19, 6, 0, 0, 0, [(0, 0)]), (19, .iload_n 1, 20, 0, 0, 0, 0, []), (20, .iload_n 2, 21, 0, 0, 0, 0, []), (21, .invokevirtual 49, 24, 6, 2, 0, 0, []), (24, .invokevirtual 41, 27, 52, 1, 2, 0, []), (27, .ireturn, 28, 0, 0, 0, 0, [])]
def tbX6_mask : Nat → pm_E := pm_lk ltX6_mask
theorem okX6_mask : ∀ pc, (tbX6_mask pc).1 = .nop ∨ pm_ok mX6_mask pw_Ms pc (tbX6_mask pc) := pm_lk_ok (by decide +kernel)
theorem nr_X6_mask : mX6_mask.2.2.2 = (some .int) := rfl
theorem tX6_mask_0 : tbX6_mask 0 = (.aload_n 0, 1, 0, 0, 0, 0, []) := rfl
theorem tX6_mask_1 : tbX6_mask 1 = (.getfield 22, 4, 6, 2, 0, 0, [(0, 0)]) := rfl
theorem tX6_mask_4 : tbX6_mask 4 = (.aload_n 0, 5, 0, 0, 0, 0, []) := rfl
theorem tX6_mask_5 : tbX6_mask 5 = (.getfield 12, 8, 6, 0, 0, 0, [(0, 0)]) := rfl
theorem tX6_mask_8 : tbX6_mask 8 = (.invokevirtual 33, 11, 51, 1, 2, 0, []) := rfl
theorem tX6_mask_11 : tbX6_mask 11 = (.aload_n 0, 12, 0, 0, 0, 0, []) := rfl
theorem tX6_mask_12 : tbX6_mask 12 = (.getfield 22, 15, 6, 2, 0, 0, [(0, 0)]) := rfl
theorem tX6_mask_15 : tbX6_mask 15 = (.aload_n 0, 16, 0, 0, 0, 0, []) := rfl
theorem tX6_mask_16 : tbX6_mask 16 = (.getfield 12, 19, 6, 0, 0, 0, [(0, 0)]) := rfl
theorem tX6_mask_19 : tbX6_mask 19 = (.iload_n 1, 20, 0, 0, 0, 0, []) := rfl
theorem tX6_mask_20 : tbX6_mask 20 = (.iload_n 2, 21, 0, 0, 0, 0, []) := rfl
theorem tX6_mask_21 : tbX6_mask 21 = (.invokevirtual 49, 24, 6, 2, 0, 0, []) := rfl
theorem tX6_mask_24 : tbX6_mask 24 = (.invokevirtual 41, 27, 52, 1, 2, 0, []) := rfl
theorem tX6_mask_27 : tbX6_mask 27 = (.ireturn, 28, 0, 0, 0, 0, []) := rfl
def ltX6_maskNode : List (Nat × pm_E) := [(0, .aload_n 0, 1, 0, 0, 0, 0, []), (1, .getfield 22, 4, 6, 2, 0, 0, [(0, 0)]), (4, .aload_n 0, 5, 0, 0, 0, 0, []), (5, .getfield 12, 8, 6, 0, 0, 0, [(0, 0)]), (8, .invokevirtual 33, 11, 51, 1, 2, 0, []), (11, .aload_n 0, 12, 0, 0, 0, 0, []), (12, .getfield 22, 15, 6, 2, 0, 0, [(0, 0)]), (15, .aload_n 0, 16, 0, 0, 0, 0, []), (16, .getfield 12, 19, 6, 0, 0, 0, [(0, 0)]), (19, .iload_n 1, 20, 0, 0, 0, 0, []), (20, .iload_n 2, 21, 0, 0, 0, 0, []), (21, .invokevirtual 52, 24, 7, 2, 0, 0, []), (24, .invokevirtual 41, 27, 52, 1, 2, 0, []), (27, .ireturn, 28, 0, 0, 0, 0, [])]
def tbX6_maskNode : Nat → pm_E := pm_lk ltX6_maskNode
theorem okX6_maskNode : ∀ pc, (tbX6_maskNode pc).1 = .nop ∨ pm_ok mX6_maskNode pw_Ms pc (tbX6_maskNode pc) := pm_lk_ok (by decide +kernel)
theorem nr_X6_maskNode : mX6_maskNode.2.2.2 = (some .int) := rfl
theorem tX6_maskNode_0 : tbX6_maskNode 0 = (.aload_n 0, 1, 0, 0, 0, 0, []) := rfl
theorem tX6_maskNode_1 : tbX6_maskNode 1 = (.getfield 22, 4, 6, 2, 0, 0, [(0, 0)]) := rfl
theorem tX6_maskNode_4 : tbX6_maskNode 4 = (.aload_n 0, 5, 0, 0, 0, 0, []) := rfl
theorem tX6_maskNode_5 : tbX6_maskNode 5 = (.getfield 12, 8, 6, 0, 0, 0, [(0, 0)]) := rfl
theorem tX6_maskNode_8 : tbX6_maskNode 8 = (.invokevirtual 33, 11, 51, 1, 2, 0, []) := rfl
theorem tX6_maskNode_11 : tbX6_maskNode 11 = (.aload_n 0, 12, 0, 0, 0, 0, []) := rfl
theorem tX6_maskNode_12 : tbX6_maskNode 12 = (.getfield 22, 15, 6, 2, 0, 0, [(0, 0)]) := rfl
theorem tX6_maskNode_15 : tbX6_maskNode 15 = (.aload_n 0, 16, 0, 0, 0, 0, []) := rfl
theorem tX6_maskNode_16 : tbX6_maskNode 16 = (.getfield 12, 19, 6, 0, 0, 0, [(0, 0)]) := rfl
theorem tX6_maskNode_19 : tbX6_maskNode 19 = (.iload_n 1, 20, 0, 0, 0, 0, []) := rfl
theorem tX6_maskNode_20 : tbX6_maskNode 20 = (.iload_n 2, 21, 0, 0, 0, 0, []) := rfl
theorem tX6_maskNode_21 : tbX6_maskNode 21 = (.invokevirtual 52, 24, 7, 2, 0, 0, []) := rfl
theorem tX6_maskNode_24 : tbX6_maskNode 24 = (.invokevirtual 41, 27, 52, 1, 2, 0, []) := rfl
theorem tX6_maskNode_27 : tbX6_maskNode 27 = (.ireturn, 28, 0, 0, 0, 0, []) := rfl
def ltX6_threshold : List (Nat × pm_E) := [(0, .aload_n 0, 1, 0, 0, 0, 0, []), (1, .getfield 22, 4, 6, 2, 0, 0, [(0, 0)]), (4, .aload_n 0, 5, 0, 0, 0, 0, []), (5, .getfield 12, 8, 6, 0, 0, 0, [(0, 0)]), (8, .invokevirtual 33, 11, 51, 1, 2, 0, []), (11, .aload_n 0, 12, 0, 0, 0, 0, []), (12, .getfield 22, 15, 6, 2, 0, 0, [(0, 0)]), (15, .aload_n 0, 16, 0, 0, 0, 0, []), (16, .getfield 12, 19, 6, 0, 0, 0, [(0, 0)]), (19, .iload_n 1, 20, 0, 0, 0, 0, []), (20, .invokevirtual 55, 23, 8, 1, 0, 0, []), (23, .invokevirtual 41, 26, 52, 1, 2, 0, []), (26, .ireturn, 27, 0, 0, 0, 0, [])]
def tbX6_threshold : Nat → pm_E := pm_lk ltX6_threshold
theorem okX6_threshold : ∀ pc, (tbX6_threshold pc).1 = .nop ∨ pm_ok mX6_threshold pw_Ms pc (tbX6_threshold pc) := pm_lk_ok (by decide +kernel)
theorem nr_X6_threshold : mX6_threshold.2.2.2 = (some .int) := rfl
theorem tX6_threshold_0 : tbX6_threshold 0 = (.aload_n 0, 1, 0, 0, 0, 0, []) := rfl
theorem tX6_threshold_1 : tbX6_threshold 1 = (.getfield 22, 4, 6, 2, 0, 0, [(0, 0)]) := rfl
theorem tX6_threshold_4 : tbX6_threshold 4 = (.aload_n 0, 5, 0, 0, 0, 0, []) := rfl
theorem tX6_threshold_5 : tbX6_threshold 5 = (.getfield 12, 8, 6, 0, 0, 0, [(0, 0)]) := rfl
theorem tX6_threshold_8 : tbX6_threshold 8 = (.invokevirtual 33, 11, 51, 1, 2, 0, []) := rfl
theorem tX6_threshold_11 : tbX6_threshold 11 = (.aload_n 0, 12, 0, 0, 0, 0, []) := rfl
theorem tX6_threshold_12 : tbX6_threshold 12 = (.getfield 22, 15, 6, 2, 0, 0, [(0, 0)]) := rfl
theorem tX6_threshold_15 : tbX6_threshold 15 = (.aload_n 0, 16, 0, 0, 0, 0, []) := rfl
theorem tX6_threshold_16 : tbX6_threshold 16 = (.getfield 12, 19, 6, 0, 0, 0, [(0, 0)]) := rfl
theorem tX6_threshold_19 : tbX6_threshold 19 = (.iload_n 1, 20, 0, 0, 0, 0, []) := rfl
theorem tX6_threshold_20 : tbX6_threshold 20 = (.invokevirtual 55, 23, 8, 1, 0, 0, []) := rfl
theorem tX6_threshold_23 : tbX6_threshold 23 = (.invokevirtual 41, 26, 52, 1, 2, 0, []) := rfl
theorem tX6_threshold_26 : tbX6_threshold 26 = (.ireturn, 27, 0, 0, 0, 0, []) := rfl
def ltX6_late : List (Nat × pm_E) := [(0, .aload_n 0, 1, 0, 0, 0, 0, []), (1, .getfield 22, 4, 6, 2, 0, 0, [(0, 0)]), (4, .aload_n 0, 5, 0, 0, 0, 0, []), (5, .getfield 12, 8, 6, 0, 0, 0, [(0, 0)]), (8, .invokevirtual 33, 11, 51, 1, 2, 0, []), (11, .aload_n 0, 12, 0, 0, 0, 0, []), (12, .getfield 22, 15, 6, 2, 0, 0, [(0, 0)]), (15, .aload_n 0, 16, 0, 0, 0, 0, []), (16, .getfield 12, 19, 6, 0, 0, 0, [(0, 0)]), (19, .iload_n 1, 20, 0, 0, 0, 0, []), (20, .invokevirtual 58, 23, 9, 1, 0, 0, []), (23, .invokevirtual 41, 26, 52, 1, 2, 0, []), (26, .ireturn, 27, 0, 0, 0, 0, [])]
def tbX6_late : Nat → pm_E := pm_lk ltX6_late
theorem okX6_late : ∀ pc, (tbX6_late pc).1 = .nop ∨ pm_ok mX6_late pw_Ms pc (tbX6_late pc) := pm_lk_ok (by decide +kernel)
theorem nr_X6_late : mX6_late.2.2.2 = (some .int) := rfl
theorem tX6_late_0 : tbX6_late 0 = (.aload_n 0, 1, 0, 0, 0, 0, []) := rfl
theorem tX6_late_1 : tbX6_late 1 = (.getfield 22, 4, 6, 2, 0, 0, [(0, 0)]) := rfl
theorem tX6_late_4 : tbX6_late 4 = (.aload_n 0, 5, 0, 0, 0, 0, []) := rfl
theorem tX6_late_5 : tbX6_late 5 = (.getfield 12, 8, 6, 0, 0, 0, [(0, 0)]) := rfl
theorem tX6_late_8 : tbX6_late 8 = (.invokevirtual 33, 11, 51, 1, 2, 0, []) := rfl
theorem tX6_late_11 : tbX6_late 11 = (.aload_n 0, 12, 0, 0, 0, 0, []) := rfl
theorem tX6_late_12 : tbX6_late 12 = (.getfield 22, 15, 6, 2, 0, 0, [(0, 0)]) := rfl
theorem tX6_late_15 : tbX6_late 15 = (.aload_n 0, 16, 0, 0, 0, 0, []) := rfl
theorem tX6_late_16 : tbX6_late 16 = (.getfield 12, 19, 6, 0, 0, 0, [(0, 0)]) := rfl
theorem tX6_late_19 : tbX6_late 19 = (.iload_n 1, 20, 0, 0, 0, 0, []) := rfl
theorem tX6_late_20 : tbX6_late 20 = (.invokevirtual 58, 23, 9, 1, 0, 0, []) := rfl
theorem tX6_late_23 : tbX6_late 23 = (.invokevirtual 41, 26, 52, 1, 2, 0, []) := rfl
theorem tX6_late_26 : tbX6_late 26 = (.ireturn, 27, 0, 0, 0, 0, []) := rfl
def ltX6_lineOf : List (Nat × pm_E) := [(0, .aload_n 0, 1, 0, 0, 0, 0, []), (1, .getfield 12, 4, 6, 0, 0, 0, [(0, 0)]), (4, .iload_n 1, 5, 0, 0, 0, 0, []), (5, .iload_n 2, 6, 0, 0, 0, 0, []), (6, .invokevirtual 61, 9, 30, 2, 0, 0, []), (9, .ireturn, 10, 0, 0, 0, 0, [])]
def tbX6_lineOf : Nat → pm_E := pm_lk ltX6_lineOf
theorem okX6_lineOf : ∀ pc, (tbX6_lineOf pc).1 = .nop ∨ pm_ok mX6_lineOf pw_Ms pc (tbX6_lineOf pc) := pm_lk_ok (by decide +kernel)
theorem nr_X6_lineOf : mX6_lineOf.2.2.2 = (some .int) := rfl
theorem tX6_lineOf_0 : tbX6_lineOf 0 = (.aload_n 0, 1, 0, 0, 0, 0, []) := rfl
theorem tX6_lineOf_1 : tbX6_lineOf 1 = (.getfield 12, 4, 6, 0, 0, 0, [(0, 0)]) := rfl
theorem tX6_lineOf_4 : tbX6_lineOf 4 = (.iload_n 1, 5, 0, 0, 0, 0, []) := rfl
theorem tX6_lineOf_5 : tbX6_lineOf 5 = (.iload_n 2, 6, 0, 0, 0, 0, []) := rfl
theorem tX6_lineOf_6 : tbX6_lineOf 6 = (.invokevirtual 61, 9, 30, 2, 0, 0, []) := rfl
theorem tX6_lineOf_9 : tbX6_lineOf 9 = (.ireturn, 10, 0, 0, 0, 0, []) := rfl
def ltX6_nodeOf : List (Nat × pm_E) := [(0, .aload_n 0, 1, 0, 0, 0, 0, []), (1, .getfield 12, 4, 6, 0, 0, 0, [(0, 0)]), (4, .iload_n 1, 5, 0, 0, 0, 0, []), (5, .iload_n 2, 6, 0, 0, 0, 0, []), (6, .invokevirtual 64, 9, 31, 2, 0, 0, []), (9, .ireturn, 10, 0, 0, 0, 0, [])]
def tbX6_nodeOf : Nat → pm_E := pm_lk ltX6_nodeOf
theorem okX6_nodeOf : ∀ pc, (tbX6_nodeOf pc).1 = .nop ∨ pm_ok mX6_nodeOf pw_Ms pc (tbX6_nodeOf pc) := pm_lk_ok (by decide +kernel)
theorem nr_X6_nodeOf : mX6_nodeOf.2.2.2 = (some .int) := rfl
theorem tX6_nodeOf_0 : tbX6_nodeOf 0 = (.aload_n 0, 1, 0, 0, 0, 0, []) := rfl
theorem tX6_nodeOf_1 : tbX6_nodeOf 1 = (.getfield 12, 4, 6, 0, 0, 0, [(0, 0)]) := rfl
theorem tX6_nodeOf_4 : tbX6_nodeOf 4 = (.iload_n 1, 5, 0, 0, 0, 0, []) := rfl
theorem tX6_nodeOf_5 : tbX6_nodeOf 5 = (.iload_n 2, 6, 0, 0, 0, 0, []) := rfl
theorem tX6_nodeOf_6 : tbX6_nodeOf 6 = (.invokevirtual 64, 9, 31, 2, 0, 0, []) := rfl
theorem tX6_nodeOf_9 : tbX6_nodeOf 9 = (.ireturn, 10, 0, 0, 0, 0, []) := rfl
def ltX6_inputAt : List (Nat × pm_E) := [(0, .aload_n 0, 1, 0, 0, 0, 0, []), (1, .getfield 12, 4, 6, 0, 0, 0, [(0, 0)]), (4, .iload_n 1, 5, 0, 0, 0, 0, []), (5, .iload_n 2, 6, 0, 0, 0, 0, []), (6, .invokevirtual 67, 9, 32, 2, 0, 0, []), (9, .ireturn, 10, 0, 0, 0, 0, [])]
def tbX6_inputAt : Nat → pm_E := pm_lk ltX6_inputAt
theorem okX6_inputAt : ∀ pc, (tbX6_inputAt pc).1 = .nop ∨ pm_ok mX6_inputAt pw_Ms pc (tbX6_inputAt pc) := pm_lk_ok (by decide +kernel)
theorem nr_X6_inputAt : mX6_inputAt.2.2.2 = (some .int) := rfl
theorem tX6_inputAt_0 : tbX6_inputAt 0 = (.aload_n 0, 1, 0, 0, 0, 0, []) := rfl
theorem tX6_inputAt_1 : tbX6_inputAt 1 = (.getfield 12, 4, 6, 0, 0, 0, [(0, 0)]) := rfl
theorem tX6_inputAt_4 : tbX6_inputAt 4 = (.iload_n 1, 5, 0, 0, 0, 0, []) := rfl
theorem tX6_inputAt_5 : tbX6_inputAt 5 = (.iload_n 2, 6, 0, 0, 0, 0, []) := rfl
theorem tX6_inputAt_6 : tbX6_inputAt 6 = (.invokevirtual 67, 9, 32, 2, 0, 0, []) := rfl
theorem tX6_inputAt_9 : tbX6_inputAt 9 = (.ireturn, 10, 0, 0, 0, 0, []) := rfl
def ltX6_edge : List (Nat × pm_E) := [(0, .aload_n 0, 1, 0, 0, 0, 0, []), (1, .getfield 22, 4, 6, 2, 0, 0, [(0, 0)]), (4, .aload_n 0, 5, 0, 0, 0, 0, []), (5, .getfield 12, 8, 6, 0, 0, 0, [(0, 0)]), (8, .invokevirtual 33, 11, 51, 1, 2, 0, []), (11, .aload_n 0, 12, 0, 0, 0, 0, []), (12, .getfield 22, 15, 6, 2, 0, 0, [(0, 0)]), (15, .aload_n 0, 16, 0, 0, 0, 0, []), (16, .getfield 12, 19, 6, 0, 0, 0, [(0, 0)]), (19, .iload_n 1, 20, 0, 0, 0, 0, []), (20, .invokevirtual 70, 23, 10, 1, 0, 0, []), (23, .invokevirtual 41, 26, 52, 1, 2, 0, []), (26, .ireturn, 27, 0, 0, 0, 0, [])]
def tbX6_edge : Nat → pm_E := pm_lk ltX6_edge
theorem okX6_edge : ∀ pc, (tbX6_edge pc).1 = .nop ∨ pm_ok mX6_edge pw_Ms pc (tbX6_edge pc) := pm_lk_ok (by decide +kernel)
theorem nr_X6_edge : mX6_edge.2.2.2 = (some .int) := rfl
theorem tX6_edge_0 : tbX6_edge 0 = (.aload_n 0, 1, 0, 0, 0, 0, []) := rfl
theorem tX6_edge_1 : tbX6_edge 1 = (.getfield 22, 4, 6, 2, 0, 0, [(0, 0)]) := rfl
theorem tX6_edge_4 : tbX6_edge 4 = (.aload_n 0, 5, 0, 0, 0, 0, []) := rfl
theorem tX6_edge_5 : tbX6_edge 5 = (.getfield 12, 8, 6, 0, 0, 0, [(0, 0)]) := rfl
theorem tX6_edge_8 : tbX6_edge 8 = (.invokevirtual 33, 11, 51, 1, 2, 0, []) := rfl
theorem tX6_edge_11 : tbX6_edge 11 = (.aload_n 0, 12, 0, 0, 0, 0, []) := rfl
theorem tX6_edge_12 : tbX6_edge 12 = (.getfield 22, 15, 6, 2, 0, 0, [(0, 0)]) := rfl
theorem tX6_edge_15 : tbX6_edge 15 = (.aload_n 0, 16, 0, 0, 0, 0, []) := rfl
theorem tX6_edge_16 : tbX6_edge 16 = (.getfield 12, 19, 6, 0, 0, 0, [(0, 0)]) := rfl
theorem tX6_edge_19 : tbX6_edge 19 = (.iload_n 1, 20, 0, 0, 0, 0, []) := rfl
theorem tX6_edge_20 : tbX6_edge 20 = (.invokevirtual 70, 23, 10, 1, 0, 0, []) := rfl
theorem tX6_edge_23 : tbX6_edge 23 = (.invokevirtual 41, 26, 52, 1, 2, 0, []) := rfl
theorem tX6_edge_26 : tbX6_edge 26 = (.ireturn, 27, 0, 0, 0, 0, []) := rfl
def ltX6_level : List (Nat × pm_E) := [(0, .aload_n 0, 1, 0, 0, 0, 0, []), (1, .getfield 22, 4, 6, 2, 0, 0, [(0, 0)]), (4, .aload_n 0, 5, 0, 0, 0, 0, []), (5, .getfield 12, 8, 6, 0, 0, 0, [(0, 0)]), (8, .invokevirtual 33, 11, 51, 1, 2, 0, []), (11, .aload_n 0, 12, 0, 0, 0, 0, []), (12, .getfield 22, 15, 6, 2, 0, 0, [(0, 0)]), (15, .aload_n 0, 16, 0, 0, 0, 0, []), (16, .getfield 12, 19, 6, 0, 0, 0, [(0, 0)]), (19, .iload_n 1, 20, 0, 0, 0, 0, []), (20, .iload_n 2, 21, 0, 0, 0, 0, []), (21, .invokevirtual 73, 24, 11, 2, 0, 0, []), (24, .invokevirtual 41, 27, 52, 1, 2, 0, []), (27, .ireturn, 28, 0, 0, 0, 0, [])]
def tbX6_level : Nat → pm_E := pm_lk ltX6_level
theorem okX6_level : ∀ pc, (tbX6_level pc).1 = .nop ∨ pm_ok mX6_level pw_Ms pc (tbX6_level pc) := pm_lk_ok (by decide +kernel)
theorem nr_X6_level : mX6_level.2.2.2 = (some .int) := rfl
theorem tX6_level_0 : tbX6_level 0 = (.aload_n 0, 1, 0, 0, 0, 0, []) := rfl
theorem tX6_level_1 : tbX6_level 1 = (.getfield 22, 4, 6, 2, 0, 0, [(0, 0)]) := rfl
theorem tX6_level_4 : tbX6_level 4 = (.aload_n 0, 5, 0, 0, 0, 0, []) := rfl
theorem tX6_level_5 : tbX6_level 5 = (.getfield 12, 8, 6, 0, 0, 0, [(0, 0)]) := rfl
theorem tX6_level_8 : tbX6_level 8 = (.invokevirtual 33, 11, 51, 1, 2, 0, []) := rfl
theorem tX6_level_11 : tbX6_level 11 = (.aload_n 0, 12, 0, 0, 0, 0, []) := rfl
theorem tX6_level_12 : tbX6_level 12 = (.getfield 22, 15, 6, 2, 0, 0, [(0, 0)]) := rfl
theorem tX6_level_15 : tbX6_level 15 = (.aload_n 0, 16, 0, 0, 0, 0, []) := rfl
theorem tX6_level_16 : tbX6_level 16 = (.getfield 12, 19, 6, 0, 0, 0, [(0, 0)]) := rfl
theorem tX6_level_19 : tbX6_level 19 = (.iload_n 1, 20, 0, 0, 0, 0, []) := rfl
theorem tX6_level_20 : tbX6_level 20 = (.iload_n 2, 21, 0, 0, 0, 0, []) := rfl
theorem tX6_level_21 : tbX6_level 21 = (.invokevirtual 73, 24, 11, 2, 0, 0, []) := rfl
theorem tX6_level_24 : tbX6_level 24 = (.invokevirtual 41, 27, 52, 1, 2, 0, []) := rfl
theorem tX6_level_27 : tbX6_level 27 = (.ireturn, 28, 0, 0, 0, 0, []) := rfl
def ltX6_take : List (Nat × pm_E) := [(0, .aload_n 0, 1, 0, 0, 0, 0, []), (1, .getfield 22, 4, 6, 2, 0, 0, [(0, 0)]), (4, .aload_n 0, 5, 0, 0, 0, 0, []), (5, .getfield 12, 8, 6, 0, 0, 0, [(0, 0)]), (8, .invokevirtual 33, 11, 51, 1, 2, 0, []), (11, .aload_n 0, 12, 0, 0, 0, 0, []), (12, .getfield 22, 15, 6, 2, 0, 0, [(0, 0)]), (15, .aload_n 0, 16, 0, 0, 0, 0, []), (16, .getfield 12, 19, 6, 0, 0, 0, [(0, 0)]), (19, .invokevirtual 76, 22, 12, 0, 0, 0, []), (22, .invokevirtual 41, 25, 52, 1, 2, 0, []), (25, .ireturn, 26, 0, 0, 0, 0, [])]
def tbX6_take : Nat → pm_E := pm_lk ltX6_take
theorem okX6_take : ∀ pc, (tbX6_take pc).1 = .nop ∨ pm_ok mX6_take pw_Ms pc (tbX6_take pc) := pm_lk_ok (by decide +kernel)
theorem nr_X6_take : mX6_take.2.2.2 = (some .int) := rfl
theorem tX6_take_0 : tbX6_take 0 = (.aload_n 0, 1, 0, 0, 0, 0, []) := rfl
theorem tX6_take_1 : tbX6_take 1 = (.getfield 22, 4, 6, 2, 0, 0, [(0, 0)]) := rfl
theorem tX6_take_4 : tbX6_take 4 = (.aload_n 0, 5, 0, 0, 0, 0, []) := rfl
theorem tX6_take_5 : tbX6_take 5 = (.getfield 12, 8, 6, 0, 0, 0, [(0, 0)]) := rfl
theorem tX6_take_8 : tbX6_take 8 = (.invokevirtual 33, 11, 51, 1, 2, 0, []) := rfl
theorem tX6_take_11 : tbX6_take 11 = (.aload_n 0, 12, 0, 0, 0, 0, []) := rfl
theorem tX6_take_12 : tbX6_take 12 = (.getfield 22, 15, 6, 2, 0, 0, [(0, 0)]) := rfl
theorem tX6_take_15 : tbX6_take 15 = (.aload_n 0, 16, 0, 0, 0, 0, []) := rfl
theorem tX6_take_16 : tbX6_take 16 = (.getfield 12, 19, 6, 0, 0, 0, [(0, 0)]) := rfl
theorem tX6_take_19 : tbX6_take 19 = (.invokevirtual 76, 22, 12, 0, 0, 0, []) := rfl
theorem tX6_take_22 : tbX6_take 22 = (.invokevirtual 41, 25, 52, 1, 2, 0, []) := rfl
theorem tX6_take_25 : tbX6_take 25 = (.ireturn, 26, 0, 0, 0, 0, []) := rfl
def ltX6_done : List (Nat × pm_E) := [(0, .aload_n 0, 1, 0, 0, 0, 0, []), (1, .getfield 22, 4, 6, 2, 0, 0, [(0, 0)]), (4, .aload_n 0, 5, 0, 0, 0, 0, []), (5, .getfield 12, 8, 6, 0, 0, 0, [(0, 0)]), (8, .invokevirtual 33, 11, 51, 1, 2, 0, []), (11, .aload_n 0, 12, 0, 0, 0, 0, []), (12, .getfield 22, 15, 6, 2, 0, 0, [(0, 0)]), (15, .aload_n 0, 16, 0, 0, 0, 0, []), (16, .getfield 12, 19, 6, 0, 0, 0, [(0, 0)]), (19, .invokevirtual 80, 22, 13, 0, 0, 0, []), (22, .invokevirtual 41, 25, 52, 1, 2, 0, []), (25, .ireturn, 26, 0, 0, 0, 0, [])]
def tbX6_done : Nat → pm_E := pm_lk ltX6_done
theorem okX6_done : ∀ pc, (tbX6_done pc).1 = .nop ∨ pm_ok mX6_done pw_Ms pc (tbX6_done pc) := pm_lk_ok (by decide +kernel)
theorem nr_X6_done : mX6_done.2.2.2 = (some .int) := rfl
theorem tX6_done_0 : tbX6_done 0 = (.aload_n 0, 1, 0, 0, 0, 0, []) := rfl
theorem tX6_done_1 : tbX6_done 1 = (.getfield 22, 4, 6, 2, 0, 0, [(0, 0)]) := rfl
theorem tX6_done_4 : tbX6_done 4 = (.aload_n 0, 5, 0, 0, 0, 0, []) := rfl
theorem tX6_done_5 : tbX6_done 5 = (.getfield 12, 8, 6, 0, 0, 0, [(0, 0)]) := rfl
theorem tX6_done_8 : tbX6_done 8 = (.invokevirtual 33, 11, 51, 1, 2, 0, []) := rfl
theorem tX6_done_11 : tbX6_done 11 = (.aload_n 0, 12, 0, 0, 0, 0, []) := rfl
theorem tX6_done_12 : tbX6_done 12 = (.getfield 22, 15, 6, 2, 0, 0, [(0, 0)]) := rfl
theorem tX6_done_15 : tbX6_done 15 = (.aload_n 0, 16, 0, 0, 0, 0, []) := rfl
theorem tX6_done_16 : tbX6_done 16 = (.getfield 12, 19, 6, 0, 0, 0, [(0, 0)]) := rfl
theorem tX6_done_19 : tbX6_done 19 = (.invokevirtual 80, 22, 13, 0, 0, 0, []) := rfl
theorem tX6_done_22 : tbX6_done 22 = (.invokevirtual 41, 25, 52, 1, 2, 0, []) := rfl
theorem tX6_done_25 : tbX6_done 25 = (.ireturn, 26, 0, 0, 0, 0, []) := rfl
def ltX6_tick : List (Nat × pm_E) := [(0, .aload_n 0, 1, 0, 0, 0, 0, []), (1, .getfield 22, 4, 6, 2, 0, 0, [(0, 0)]), (4, .aload_n 0, 5, 0, 0, 0, 0, []), (5, .getfield 12, 8, 6, 0, 0, 0, [(0, 0)]), (8, .invokevirtual 33, 11, 51, 1, 2, 0, []), (11, .aload_n 0, 12, 0, 0, 0, 0, []), (12, .getfield 22, 15, 6, 2, 0, 0, [(0, 0)]), (15, .aload_n 0, 16, 0, 0, 0, 0, []), (16, .getfield 12, 19, 6, 0, 0, 0, [(0, 0)]), (19, .iload_n 1, 20, 0, 0, 0, 0, []), (20, .invokevirtual 83, 23, 14, 1, 0, 0, []), (23, .invokevirtual 41, 26, 52, 1, 2, 0, []), (26, .ireturn, 27, 0, 0, 0, 0, [])]
def tbX6_tick : Nat → pm_E := pm_lk ltX6_tick
theorem okX6_tick : ∀ pc, (tbX6_tick pc).1 = .nop ∨ pm_ok mX6_tick pw_Ms pc (tbX6_tick pc) := pm_lk_ok (by decide +kernel)
theorem nr_X6_tick : mX6_tick.2.2.2 = (some .int) := rfl
theorem tX6_tick_0 : tbX6_tick 0 = (.aload_n 0, 1, 0, 0, 0, 0, []) := rfl
theorem tX6_tick_1 : tbX6_tick 1 = (.getfield 22, 4, 6, 2, 0, 0, [(0, 0)]) := rfl
theorem tX6_tick_4 : tbX6_tick 4 = (.aload_n 0, 5, 0, 0, 0, 0, []) := rfl
theorem tX6_tick_5 : tbX6_tick 5 = (.getfield 12, 8, 6, 0, 0, 0, [(0, 0)]) := rfl
theorem tX6_tick_8 : tbX6_tick 8 = (.invokevirtual 33, 11, 51, 1, 2, 0, []) := rfl
theorem tX6_tick_11 : tbX6_tick 11 = (.aload_n 0, 12, 0, 0, 0, 0, []) := rfl
theorem tX6_tick_12 : tbX6_tick 12 = (.getfield 22, 15, 6, 2, 0, 0, [(0, 0)]) := rfl
theorem tX6_tick_15 : tbX6_tick 15 = (.aload_n 0, 16, 0, 0, 0, 0, []) := rfl
theorem tX6_tick_16 : tbX6_tick 16 = (.getfield 12, 19, 6, 0, 0, 0, [(0, 0)]) := rfl
theorem tX6_tick_19 : tbX6_tick 19 = (.iload_n 1, 20, 0, 0, 0, 0, []) := rfl
theorem tX6_tick_20 : tbX6_tick 20 = (.invokevirtual 83, 23, 14, 1, 0, 0, []) := rfl
theorem tX6_tick_23 : tbX6_tick 23 = (.invokevirtual 41, 26, 52, 1, 2, 0, []) := rfl
theorem tX6_tick_26 : tbX6_tick 26 = (.ireturn, 27, 0, 0, 0, 0, []) := rfl
def ltX6_next : List (Nat × pm_E) := [(0, .aload_n 0, 1, 0, 0, 0, 0, []), (1, .getfield 12, 4, 6, 0, 0, 0, [(0, 0)]), (4, .invokevirtual 86, 7, 18, 0, 0, 0, []), (7, .istore_n 1, 8, 0, 0, 0, 0, []), (8, .iload_n 1, 9, 0, 0, 0, 0, []), (9, .iconst (-1), 10, 0, 0, 0, -1, []), (10, .if_icmp .ne 8, 13, 18, 0, 0, 0, []), (13, .bipush (-4), 15, 0, 0, 0, -4, []), (15, .goto 4, 18, 19, 0, 0, 0, []), (18, .iload_n 1, 19, 0, 0, 0, 0, []), (19, .ireturn, 20, 0, 0, 0, 0, [])]
def tbX6_next : Nat → pm_E := pm_lk ltX6_next
theorem okX6_next : ∀ pc, (tbX6_next pc).1 = .nop ∨ pm_ok mX6_next pw_Ms pc (tbX6_next pc) := pm_lk_ok (by decide +kernel)
theorem nr_X6_next : mX6_next.2.2.2 = (some .int) := rfl
theorem tX6_next_0 : tbX6_next 0 = (.aload_n 0, 1, 0, 0, 0, 0, []) := rfl
theorem tX6_next_1 : tbX6_next 1 = (.getfield 12, 4, 6, 0, 0, 0, [(0, 0)]) := rfl
theorem tX6_next_4 : tbX6_next 4 = (.invokevirtual 86, 7, 18, 0, 0, 0, []) := rfl
theorem tX6_next_7 : tbX6_next 7 = (.istore_n 1, 8, 0, 0, 0, 0, []) := rfl
theorem tX6_next_8 : tbX6_next 8 = (.iload_n 1, 9, 0, 0, 0, 0, []) := rfl
theorem tX6_next_9 : tbX6_next 9 = (.iconst (-1), 10, 0, 0, 0, -1, []) := rfl
theorem tX6_next_10 : tbX6_next 10 = (.if_icmp .ne 8, 13, 18, 0, 0, 0, []) := rfl
theorem tX6_next_13 : tbX6_next 13 = (.bipush (-4), 15, 0, 0, 0, -4, []) := rfl
theorem tX6_next_15 : tbX6_next 15 = (.goto 4, 18, 19, 0, 0, 0, []) := rfl
theorem tX6_next_18 : tbX6_next 18 = (.iload_n 1, 19, 0, 0, 0, 0, []) := rfl
theorem tX6_next_19 : tbX6_next 19 = (.ireturn, 20, 0, 0, 0, 0, []) := rfl
def ltX6_orderAt : List (Nat × pm_E) := [(0, .iload_n 1, 1, 0, 0, 0, 0, []), (1, .ifCond .ge 5, 4, 6, 0, 0, 0, []), (4, .iconst (-1), 5, 0, 0, 0, -1, []), (5, .ireturn, 6, 0, 0, 0, 0, []), (6, .iload_n 1, 7, 0, 0, 0, 0, []), (7, .bipush 16, 9, 0, 0, 0, 16, []), (9, .if_icmp .lt 6, 12, 15, 0, 0, 0, []), (12, .bipush (-4), 14, 0, 0, 0, -4, []), (14, .ireturn, 15, 0, 0, 0, 0, []), (15, .aload_n 0, 16, 0, 0, 0, 0, []), (16, .getfield 16, 19, 6, 1, 0, 0, [(0, 0)]), (19, .aload_n 0, 20, 0, 0, 0, 0, []), (20, .getfield 12, 23, 6, 0, 0, 0, [(0, 0)]), (23, .invokevirtual 89, 26, 1, 1, 0, 0, []), (26, .iconst 0, 27, 0, 0, 0, 0, []), (27, .istore_n 2, 28, 0, 0, 0, 0, []), (28, .iload_n 2, 29, 0, 0, 0, 0, []), (29, .iload_n 1, 30, 0, 0, 0, 0, []), (30, .if_icmp .ge 23, 33, 53, 0, 0, 0, []), (33, .aload_n 0, 34, 0, 0, 0, 0, []), (34, .getfield 16, 37, 6, 1, 0, 0, [(0, 0)]), (37, .aload_n 0, 38, 0, 0, 0, 0, []), (38, .getfield 16, 41, 6, 1, 0, 0, [(0, 0)]), (41, .invokevirtual 86, 44, 18, 0, 0, 0, []), (44, .invokevirtual 92, 47, 19, 1, 0, 0, []), (47, .iinc 2 1, 50, 0, 0, 0, 1, []), (50, .goto (-22), 53, 28, 0, 0, 0, []), (53, .aload_n 0, 54, 0, 0, 0, 0, []), (54, .getfield 16, 57, 6, 1, 0, 0, [(0, 0)]), (57, .invokevirtual 86, 60, 18, 0, 0, 0, []), (60, .istore_n 2, 61, 0, 0, 0, 0, []), (61, .iload_n 2, 62, 0, 0, 0, 0, []), (62, .iconst (-1), 63, 0, 0, 0, -1, []), (63, .if_icmp .ne 8, 66, 71, 0, 0, 0, []), (66, .bipush (-4), 68, 0, 0, 0, -4, []), (68, .goto 4, 71, 72, 0, 0, 0, []), (71, .iload_n 2, 72, 0, 0, 0, 0, []), (72, .ireturn, 73, 0, 0, 0, 0, [])]
def tbX6_orderAt : Nat → pm_E := pm_lk ltX6_orderAt
theorem okX6_orderAt : ∀ pc, (tbX6_orderAt pc).1 = .nop ∨ pm_ok mX6_orderAt pw_Ms pc (tbX6_orderAt pc) := pm_lk_ok (by decide +kernel)
theorem nr_X6_orderAt : mX6_orderAt.2.2.2 = (some .int) := rfl
theorem tX6_orderAt_0 : tbX6_orderAt 0 = (.iload_n 1, 1, 0, 0, 0, 0, []) := rfl
theorem tX6_orderAt_1 : tbX6_orderAt 1 = (.ifCond .ge 5, 4, 6, 0, 0, 0, []) := rfl
theorem tX6_orderAt_4 : tbX6_orderAt 4 = (.iconst (-1), 5, 0, 0, 0, -1, []) := rfl
theorem tX6_orderAt_5 : tbX6_orderAt 5 = (.ireturn, 6, 0, 0, 0, 0, []) := rfl
theorem tX6_orderAt_6 : tbX6_orderAt 6 = (.iload_n 1, 7, 0, 0, 0, 0, []) := rfl
theorem tX6_orderAt_7 : tbX6_orderAt 7 = (.bipush 16, 9, 0, 0, 0, 16, []) := rfl
theorem tX6_orderAt_9 : tbX6_orderAt 9 = (.if_icmp .lt 6, 12, 15, 0, 0, 0, []) := rfl
theorem tX6_orderAt_12 : tbX6_orderAt 12 = (.bipush (-4), 14, 0, 0, 0, -4, []) := rfl
theorem tX6_orderAt_14 : tbX6_orderAt 14 = (.ireturn, 15, 0, 0, 0, 0, []) := rfl
theorem tX6_orderAt_15 : tbX6_orderAt 15 = (.aload_n 0, 16, 0, 0, 0, 0, []) := rfl
theorem tX6_orderAt_16 : tbX6_orderAt 16 = (.getfield 16, 19, 6, 1, 0, 0, [(0, 0)]) := rfl
theorem tX6_orderAt_19 : tbX6_orderAt 19 = (.aload_n 0, 20, 0, 0, 0, 0, []) := rfl
theorem tX6_orderAt_20 : tbX6_orderAt 20 = (.getfield 12, 23, 6, 0, 0, 0, [(0, 0)]) := rfl
theorem tX6_orderAt_23 : tbX6_orderAt 23 = (.invokevirtual 89, 26, 1, 1, 0, 0, []) := rfl
theorem tX6_orderAt_26 : tbX6_orderAt 26 = (.iconst 0, 27, 0, 0, 0, 0, []) := rfl
theorem tX6_orderAt_27 : tbX6_orderAt 27 = (.istore_n 2, 28, 0, 0, 0, 0, []) := rfl
theorem tX6_orderAt_28 : tbX6_orderAt 28 = (.iload_n 2, 29, 0, 0, 0, 0, []) := rfl
theorem tX6_orderAt_29 : tbX6_orderAt 29 = (.iload_n 1, 30, 0, 0, 0, 0, []) := rfl
theorem tX6_orderAt_30 : tbX6_orderAt 30 = (.if_icmp .ge 23, 33, 53, 0, 0, 0, []) := rfl
theorem tX6_orderAt_33 : tbX6_orderAt 33 = (.aload_n 0, 34, 0, 0, 0, 0, []) := rfl
theorem tX6_orderAt_34 : tbX6_orderAt 34 = (.getfield 16, 37, 6, 1, 0, 0, [(0, 0)]) := rfl
theorem tX6_orderAt_37 : tbX6_orderAt 37 = (.aload_n 0, 38, 0, 0, 0, 0, []) := rfl
theorem tX6_orderAt_38 : tbX6_orderAt 38 = (.getfield 16, 41, 6, 1, 0, 0, [(0, 0)]) := rfl
theorem tX6_orderAt_41 : tbX6_orderAt 41 = (.invokevirtual 86, 44, 18, 0, 0, 0, []) := rfl
theorem tX6_orderAt_44 : tbX6_orderAt 44 = (.invokevirtual 92, 47, 19, 1, 0, 0, []) := rfl
theorem tX6_orderAt_47 : tbX6_orderAt 47 = (.iinc 2 1, 50, 0, 0, 0, 1, []) := rfl
theorem tX6_orderAt_50 : tbX6_orderAt 50 = (.goto (-22), 53, 28, 0, 0, 0, []) := rfl
theorem tX6_orderAt_53 : tbX6_orderAt 53 = (.aload_n 0, 54, 0, 0, 0, 0, []) := rfl
theorem tX6_orderAt_54 : tbX6_orderAt 54 = (.getfield 16, 57, 6, 1, 0, 0, [(0, 0)]) := rfl
theorem tX6_orderAt_57 : tbX6_orderAt 57 = (.invokevirtual 86, 60, 18, 0, 0, 0, []) := rfl
theorem tX6_orderAt_60 : tbX6_orderAt 60 = (.istore_n 2, 61, 0, 0, 0, 0, []) := rfl
theorem tX6_orderAt_61 : tbX6_orderAt 61 = (.iload_n 2, 62, 0, 0, 0, 0, []) := rfl
theorem tX6_orderAt_62 : tbX6_orderAt 62 = (.iconst (-1), 63, 0, 0, 0, -1, []) := rfl
theorem tX6_orderAt_63 : tbX6_orderAt 63 = (.if_icmp .ne 8, 66, 71, 0, 0, 0, []) := rfl
theorem tX6_orderAt_66 : tbX6_orderAt 66 = (.bipush (-4), 68, 0, 0, 0, -4, []) := rfl
theorem tX6_orderAt_68 : tbX6_orderAt 68 = (.goto 4, 71, 72, 0, 0, 0, []) := rfl
theorem tX6_orderAt_71 : tbX6_orderAt 71 = (.iload_n 2, 72, 0, 0, 0, 0, []) := rfl
theorem tX6_orderAt_72 : tbX6_orderAt 72 = (.ireturn, 73, 0, 0, 0, 0, []) := rfl
def ltX6_serviceAt : List (Nat × pm_E) := [(0, .aload_n 0, 1, 0, 0, 0, 0, []), (1, .getfield 12, 4, 6, 0, 0, 0, [(0, 0)]), (4, .iload_n 1, 5, 0, 0, 0, 0, []), (5, .invokevirtual 96, 8, 33, 1, 0, 0, []), (8, .ireturn, 9, 0, 0, 0, 0, [])]
def tbX6_serviceAt : Nat → pm_E := pm_lk ltX6_serviceAt
theorem okX6_serviceAt : ∀ pc, (tbX6_serviceAt pc).1 = .nop ∨ pm_ok mX6_serviceAt pw_Ms pc (tbX6_serviceAt pc) := pm_lk_ok (by decide +kernel)
theorem nr_X6_serviceAt : mX6_serviceAt.2.2.2 = (some .int) := rfl
theorem tX6_serviceAt_0 : tbX6_serviceAt 0 = (.aload_n 0, 1, 0, 0, 0, 0, []) := rfl
theorem tX6_serviceAt_1 : tbX6_serviceAt 1 = (.getfield 12, 4, 6, 0, 0, 0, [(0, 0)]) := rfl
theorem tX6_serviceAt_4 : tbX6_serviceAt 4 = (.iload_n 1, 5, 0, 0, 0, 0, []) := rfl
theorem tX6_serviceAt_5 : tbX6_serviceAt 5 = (.invokevirtual 96, 8, 33, 1, 0, 0, []) := rfl
theorem tX6_serviceAt_8 : tbX6_serviceAt 8 = (.ireturn, 9, 0, 0, 0, 0, []) := rfl
def ltX6_waitingAt : List (Nat × pm_E) := [(0, .aload_n 0, 1, 0, 0, 0, 0, []), (1, .getfield 12, 4, 6, 0, 0, 0, [(0, 0)]), (4, .iload_n 1, 5, 0, 0, 0, 0, []), (5, .invokevirtual 99, 8, 34, 1, 0, 0, []), (8, .ireturn, 9, 0, 0, 0, 0, [])]
def tbX6_waitingAt : Nat → pm_E := pm_lk ltX6_waitingAt
theorem okX6_waitingAt : ∀ pc, (tbX6_waitingAt pc).1 = .nop ∨ pm_ok mX6_waitingAt pw_Ms pc (tbX6_waitingAt pc) := pm_lk_ok (by decide +kernel)
theorem nr_X6_waitingAt : mX6_waitingAt.2.2.2 = (some .int) := rfl
theorem tX6_waitingAt_0 : tbX6_waitingAt 0 = (.aload_n 0, 1, 0, 0, 0, 0, []) := rfl
theorem tX6_waitingAt_1 : tbX6_waitingAt 1 = (.getfield 12, 4, 6, 0, 0, 0, [(0, 0)]) := rfl
theorem tX6_waitingAt_4 : tbX6_waitingAt 4 = (.iload_n 1, 5, 0, 0, 0, 0, []) := rfl
theorem tX6_waitingAt_5 : tbX6_waitingAt 5 = (.invokevirtual 99, 8, 34, 1, 0, 0, []) := rfl
theorem tX6_waitingAt_8 : tbX6_waitingAt 8 = (.ireturn, 9, 0, 0, 0, 0, []) := rfl
def ltX6_lines : List (Nat × pm_E) := [(0, .iload_n 1, 1, 0, 0, 0, 0, []), (1, .tableswitch 89 0 5 #[39, 47, 55, 64, 73, 81], 40, 90, 0, 0, 0, [(0, 40), (1, 48), (2, 56), (3, 65), (4, 74), (5, 82)]), (40, .aload_n 0, 41, 0, 0, 0, 0, []), (41, .getfield 12, 44, 6, 0, 0, 0, [(0, 0)]), (44, .invokevirtual 102, 47, 23, 0, 0, 0, []), (47, .ireturn, 48, 0, 0, 0, 0, []), (48, .aload_n 0, 49, 0, 0, 0, 0, []), (49, .getfield 12, 52, 6, 0, 0, 0, [(0, 0)]), (52, .invokevirtual 105, 55, 24, 0, 0, 0, []), (55, .ireturn, 56, 0, 0, 0, 0, []), (56, .aload_n 0, 57, 0, 0, 0, 0, []), (57, .getfield 12, 60, 6, 0, 0, 0, [(0, 0)]), (60, .iconst 1, 61, 0, 0, 0, 1, []), (61, .invokevirtual 108, 64, 25, 1, 0, 0, []), (64, .ireturn, 65, 0, 0, 0, 0, []), (65, .aload_n 0, 66, 0, 0, 0, 0, []), (66, .getfield 12, 69, 6, 0, 0, 0, [(0, 0)]), (69, .iconst 2, 70, 0, 0, 0, 2, []), (70, .invokevirtual 108, 73, 25, 1, 0, 0, []), (73, .ireturn, 74, 0, 0, 0, 0, []), (74, .aload_n 0, 75, 0, 0, 0, 0, []), (75, .getfield 12, 78, 6, 0, 0, 0, [(0, 0)]), (78, .invokevirtual 111, 81, 26, 0, 0, 0, []), (81, .ireturn, 82, 0, 0, 0, 0, []), (82, .aload_n 0, 83, 0, 0, 0, 0, []), (83, .getfield 12, 86, 6, 0, 0, 0, [(0, 0)]), (86, .invokevirtual 114, 89, 27, 0, 0, 0, []), (89, .ireturn, 90, 0, 0, 0, 0, []), (90, .iconst (-1), 91, 0, 0, 0, -1, []), (91, .ireturn, 92, 0, 0, 0, 0, [])]
def tbX6_lines : Nat → pm_E := pm_lk ltX6_lines
theorem okX6_lines : ∀ pc, (tbX6_lines pc).1 = .nop ∨ pm_ok mX6_lines pw_Ms pc (tbX6_lines pc) := pm_lk_ok (by decide +kernel)
theorem nr_X6_lines : mX6_lines.2.2.2 = (some .int) := rfl
theorem tX6_lines_0 : tbX6_lines 0 = (.iload_n 1, 1, 0, 0, 0, 0, []) := rfl
theorem tX6_lines_1 : tbX6_lines 1 = (.tableswitch 89 0 5 #[39, 47, 55, 64, 73, 81], 40, 90, 0, 0, 0, [(0, 40), (1, 48), (2, 56), (3, 65), (4, 74), (5, 82)]) := rfl
theorem tX6_lines_40 : tbX6_lines 40 = (.aload_n 0, 41, 0, 0, 0, 0, []) := rfl
theorem tX6_lines_41 : tbX6_lines 41 = (.getfield 12, 44, 6, 0, 0, 0, [(0, 0)]) := rfl
theorem tX6_lines_44 : tbX6_lines 44 = (.invokevirtual 102, 47, 23, 0, 0, 0, []) := rfl
theorem tX6_lines_47 : tbX6_lines 47 = (.ireturn, 48, 0, 0, 0, 0, []) := rfl
theorem tX6_lines_48 : tbX6_lines 48 = (.aload_n 0, 49, 0, 0, 0, 0, []) := rfl
theorem tX6_lines_49 : tbX6_lines 49 = (.getfield 12, 52, 6, 0, 0, 0, [(0, 0)]) := rfl
theorem tX6_lines_52 : tbX6_lines 52 = (.invokevirtual 105, 55, 24, 0, 0, 0, []) := rfl
theorem tX6_lines_55 : tbX6_lines 55 = (.ireturn, 56, 0, 0, 0, 0, []) := rfl
theorem tX6_lines_56 : tbX6_lines 56 = (.aload_n 0, 57, 0, 0, 0, 0, []) := rfl
theorem tX6_lines_57 : tbX6_lines 57 = (.getfield 12, 60, 6, 0, 0, 0, [(0, 0)]) := rfl
theorem tX6_lines_60 : tbX6_lines 60 = (.iconst 1, 61, 0, 0, 0, 1, []) := rfl
theorem tX6_lines_61 : tbX6_lines 61 = (.invokevirtual 108, 64, 25, 1, 0, 0, []) := rfl
theorem tX6_lines_64 : tbX6_lines 64 = (.ireturn, 65, 0, 0, 0, 0, []) := rfl
theorem tX6_lines_65 : tbX6_lines 65 = (.aload_n 0, 66, 0, 0, 0, 0, []) := rfl
theorem tX6_lines_66 : tbX6_lines 66 = (.getfield 12, 69, 6, 0, 0, 0, [(0, 0)]) := rfl
theorem tX6_lines_69 : tbX6_lines 69 = (.iconst 2, 70, 0, 0, 0, 2, []) := rfl
theorem tX6_lines_70 : tbX6_lines 70 = (.invokevirtual 108, 73, 25, 1, 0, 0, []) := rfl
theorem tX6_lines_73 : tbX6_lines 73 = (.ireturn, 74, 0, 0, 0, 0, []) := rfl
theorem tX6_lines_74 : tbX6_lines 74 = (.aload_n 0, 75, 0, 0, 0, 0, []) := rfl
theorem tX6_lines_75 : tbX6_lines 75 = (.getfield 12, 78, 6, 0, 0, 0, [(0, 0)]) := rfl
theorem tX6_lines_78 : tbX6_lines 78 = (.invokevirtual 111, 81, 26, 0, 0, 0, []) := rfl
theorem tX6_lines_81 : tbX6_lines 81 = (.ireturn, 82, 0, 0, 0, 0, []) := rfl
theorem tX6_lines_82 : tbX6_lines 82 = (.aload_n 0, 83, 0, 0, 0, 0, []) := rfl
theorem tX6_lines_83 : tbX6_lines 83 = (.getfield 12, 86, 6, 0, 0, 0, [(0, 0)]) := rfl
theorem tX6_lines_86 : tbX6_lines 86 = (.invokevirtual 114, 89, 27, 0, 0, 0, []) := rfl
theorem tX6_lines_89 : tbX6_lines 89 = (.ireturn, 90, 0, 0, 0, 0, []) := rfl
theorem tX6_lines_90 : tbX6_lines 90 = (.iconst (-1), 91, 0, 0, 0, -1, []) := rfl
theorem tX6_lines_91 : tbX6_lines 91 = (.ireturn, 92, 0, 0, 0, 0, []) := rfl
def ltX6_count : List (Nat × pm_E) := [(0, .iload_n 1, 1, 0, 0, 0, 0, []), (1, .lookupswitch 43 #[(11, 27), (12, 35)], 28, 44, 0, 0, 0, [(11, 28), (12, 36)]), (28, .aload_n 0, 29, 0, 0, 0, 0, []), (29, .getfield 22, 32, 6, 2, 0, 0, [(0, 0)]), (32, .getfield 117, 35, 2, 1, 0, 0, []), (35, .ireturn, 36, 0, 0, 0, 0, []), (36, .aload_n 0, 37, 0, 0, 0, 0, []), (37, .getfield 29, 40, 6, 3, 0, 0, [(0, 0)]), (40, .getfield 121, 43, 1, 1, 0, 0, []), (43, .ireturn, 44, 0, 0, 0, 0, []), (44, .aload_n 0, 45, 0, 0, 0, 0, []), (45, .getfield 12, 48, 6, 0, 0, 0, [(0, 0)]), (48, .iload_n 1, 49, 0, 0, 0, 0, []), (49, .invokevirtual 124, 52, 35, 1, 0, 0, []), (52, .ireturn, 53, 0, 0, 0, 0, [])]
def tbX6_count : Nat → pm_E := pm_lk ltX6_count
theorem okX6_count : ∀ pc, (tbX6_count pc).1 = .nop ∨ pm_ok mX6_count pw_Ms pc (tbX6_count pc) := pm_lk_ok (by decide +kernel)
theorem nr_X6_count : mX6_count.2.2.2 = (some .int) := rfl
theorem tX6_count_0 : tbX6_count 0 = (.iload_n 1, 1, 0, 0, 0, 0, []) := rfl
theorem tX6_count_1 : tbX6_count 1 = (.lookupswitch 43 #[(11, 27), (12, 35)], 28, 44, 0, 0, 0, [(11, 28), (12, 36)]) := rfl
theorem tX6_count_28 : tbX6_count 28 = (.aload_n 0, 29, 0, 0, 0, 0, []) := rfl
theorem tX6_count_29 : tbX6_count 29 = (.getfield 22, 32, 6, 2, 0, 0, [(0, 0)]) := rfl
theorem tX6_count_32 : tbX6_count 32 = (.getfield 117, 35, 2, 1, 0, 0, []) := rfl
theorem tX6_count_35 : tbX6_count 35 = (.ireturn, 36, 0, 0, 0, 0, []) := rfl
theorem tX6_count_36 : tbX6_count 36 = (.aload_n 0, 37, 0, 0, 0, 0, []) := rfl
theorem tX6_count_37 : tbX6_count 37 = (.getfield 29, 40, 6, 3, 0, 0, [(0, 0)]) := rfl
theorem tX6_count_40 : tbX6_count 40 = (.getfield 121, 43, 1, 1, 0, 0, []) := rfl
theorem tX6_count_43 : tbX6_count 43 = (.ireturn, 44, 0, 0, 0, 0, []) := rfl
theorem tX6_count_44 : tbX6_count 44 = (.aload_n 0, 45, 0, 0, 0, 0, []) := rfl
theorem tX6_count_45 : tbX6_count 45 = (.getfield 12, 48, 6, 0, 0, 0, [(0, 0)]) := rfl
theorem tX6_count_48 : tbX6_count 48 = (.iload_n 1, 49, 0, 0, 0, 0, []) := rfl
theorem tX6_count_49 : tbX6_count 49 = (.invokevirtual 124, 52, 35, 1, 0, 0, []) := rfl
theorem tX6_count_52 : tbX6_count 52 = (.ireturn, 53, 0, 0, 0, 0, []) := rfl
def ltX6_undo : List (Nat × pm_E) := [(0, .aload_n 0, 1, 0, 0, 0, 0, []), (1, .getfield 22, 4, 6, 2, 0, 0, [(0, 0)]), (4, .aload_n 0, 5, 0, 0, 0, 0, []), (5, .getfield 12, 8, 6, 0, 0, 0, [(0, 0)]), (8, .invokevirtual 127, 11, 53, 1, 2, 0, []), (11, .ireturn, 12, 0, 0, 0, 0, [])]
def tbX6_undo : Nat → pm_E := pm_lk ltX6_undo
theorem okX6_undo : ∀ pc, (tbX6_undo pc).1 = .nop ∨ pm_ok mX6_undo pw_Ms pc (tbX6_undo pc) := pm_lk_ok (by decide +kernel)
theorem nr_X6_undo : mX6_undo.2.2.2 = (some .int) := rfl
theorem tX6_undo_0 : tbX6_undo 0 = (.aload_n 0, 1, 0, 0, 0, 0, []) := rfl
theorem tX6_undo_1 : tbX6_undo 1 = (.getfield 22, 4, 6, 2, 0, 0, [(0, 0)]) := rfl
theorem tX6_undo_4 : tbX6_undo 4 = (.aload_n 0, 5, 0, 0, 0, 0, []) := rfl
theorem tX6_undo_5 : tbX6_undo 5 = (.getfield 12, 8, 6, 0, 0, 0, [(0, 0)]) := rfl
theorem tX6_undo_8 : tbX6_undo 8 = (.invokevirtual 127, 11, 53, 1, 2, 0, []) := rfl
theorem tX6_undo_11 : tbX6_undo 11 = (.ireturn, 12, 0, 0, 0, 0, []) := rfl
def ltX6_type : List (Nat × pm_E) := [(0, .aload_n 0, 1, 0, 0, 0, 0, []), (1, .getfield 29, 4, 6, 3, 0, 0, [(0, 0)]), (4, .iload_n 1, 5, 0, 0, 0, 0, []), (5, .invokevirtual 131, 8, 40, 1, 1, 0, []), (8, .ireturn, 9, 0, 0, 0, 0, [])]
def tbX6_type : Nat → pm_E := pm_lk ltX6_type
theorem okX6_type : ∀ pc, (tbX6_type pc).1 = .nop ∨ pm_ok mX6_type pw_Ms pc (tbX6_type pc) := pm_lk_ok (by decide +kernel)
theorem nr_X6_type : mX6_type.2.2.2 = (some .int) := rfl
theorem tX6_type_0 : tbX6_type 0 = (.aload_n 0, 1, 0, 0, 0, 0, []) := rfl
theorem tX6_type_1 : tbX6_type 1 = (.getfield 29, 4, 6, 3, 0, 0, [(0, 0)]) := rfl
theorem tX6_type_4 : tbX6_type 4 = (.iload_n 1, 5, 0, 0, 0, 0, []) := rfl
theorem tX6_type_5 : tbX6_type 5 = (.invokevirtual 131, 8, 40, 1, 1, 0, []) := rfl
theorem tX6_type_8 : tbX6_type 8 = (.ireturn, 9, 0, 0, 0, 0, []) := rfl
def ltX6_clearText : List (Nat × pm_E) := [(0, .aload_n 0, 1, 0, 0, 0, 0, []), (1, .getfield 29, 4, 6, 3, 0, 0, [(0, 0)]), (4, .invokevirtual 134, 7, 41, 0, 1, 0, []), (7, .ireturn, 8, 0, 0, 0, 0, [])]
def tbX6_clearText : Nat → pm_E := pm_lk ltX6_clearText
theorem okX6_clearText : ∀ pc, (tbX6_clearText pc).1 = .nop ∨ pm_ok mX6_clearText pw_Ms pc (tbX6_clearText pc) := pm_lk_ok (by decide +kernel)
theorem nr_X6_clearText : mX6_clearText.2.2.2 = (some .int) := rfl
theorem tX6_clearText_0 : tbX6_clearText 0 = (.aload_n 0, 1, 0, 0, 0, 0, []) := rfl
theorem tX6_clearText_1 : tbX6_clearText 1 = (.getfield 29, 4, 6, 3, 0, 0, [(0, 0)]) := rfl
theorem tX6_clearText_4 : tbX6_clearText 4 = (.invokevirtual 134, 7, 41, 0, 1, 0, []) := rfl
theorem tX6_clearText_7 : tbX6_clearText 7 = (.ireturn, 8, 0, 0, 0, 0, []) := rfl
def ltX6_fault : List (Nat × pm_E) := [(0, .iload_n 1, 1, 0, 0, 0, 0, []), (1, .invokestatic 137, 4, 91, 1, 0, 0, []), (4, .ifCond .ne 5, 7, 9, 0, 0, 0, []), (7, .iconst (-1), 8, 0, 0, 0, -1, []), (8, .ireturn, 9, 0, 0, 0, 0, []), (9, .aload_n 0, 10, 0, 0, 0, 0, []), (10, .getfield 16, 13, 6, 1, 0, 0, [(0, 0)]), (13, .aload_n 0, 14, 0, 0, 0, 0, []), (14, .getfield 12, 17, 6, 0, 0, 0, [(0, 0)]), (17, .invokevirtual 89, 20, 1, 1, 0, 0, []), (20, .aload_n 0, 21, 0, 0, 0, 0, []), (21, .getfield 29, 24, 6, 3, 0, 0, [(0, 0)]), (24, .aload_n 0, 25, 0, 0, 0, 0, []), (25, .getfield 16, 28, 6, 1, 0, 0, [(0, 0)]), (28, .invokevirtual 141, 31, 42, 1, 1, 0, []), (31, .pop, 32, 0, 0, 0, 0, []), (32, .aload_n 0, 33, 0, 0, 0, 0, []), (33, .getfield 29, 36, 6, 3, 0, 0, [(0, 0)]), (36, .getfield 144, 39, 1, 6, 0, 0, []), (39, .ifCond .ne 6, 42, 45, 0, 0, 0, []), (42, .bipush (-4), 44, 0, 0, 0, -4, []), (44, .ireturn, 45, 0, 0, 0, 0, []), (45, .iload_n 1, 46, 0, 0, 0, 0, []), (46, .ifCond .ne 13, 49, 59, 0, 0, 0, []), (49, .aload_n 0, 50, 0, 0, 0, 0, []), (50, .getfield 29, 53, 6, 3, 0, 0, [(0, 0)]), (53, .getfield 147, 56, 1, 2, 0, 0, []), (56, .goto 10, 59, 66, 0, 0, 0, []), (59, .aload_n 0, 60, 0, 0, 0, 0, []), (60, .getfield 29, 63, 6, 3, 0, 0, [(0, 0)]), (63, .getfield 144, 66, 1, 6, 0, 0, []), (66, .ireturn, 67, 0, 0, 0, 0, [])]
def tbX6_fault : Nat → pm_E := pm_lk ltX6_fault
theorem okX6_fault : ∀ pc, (tbX6_fault pc).1 = .nop ∨ pm_ok mX6_fault pw_Ms pc (tbX6_fault pc) := pm_lk_ok (by decide +kernel)
theorem nr_X6_fault : mX6_fault.2.2.2 = (some .int) := rfl
theorem tX6_fault_0 : tbX6_fault 0 = (.iload_n 1, 1, 0, 0, 0, 0, []) := rfl
theorem tX6_fault_1 : tbX6_fault 1 = (.invokestatic 137, 4, 91, 1, 0, 0, []) := rfl
theorem tX6_fault_4 : tbX6_fault 4 = (.ifCond .ne 5, 7, 9, 0, 0, 0, []) := rfl
theorem tX6_fault_7 : tbX6_fault 7 = (.iconst (-1), 8, 0, 0, 0, -1, []) := rfl
theorem tX6_fault_8 : tbX6_fault 8 = (.ireturn, 9, 0, 0, 0, 0, []) := rfl
theorem tX6_fault_9 : tbX6_fault 9 = (.aload_n 0, 10, 0, 0, 0, 0, []) := rfl
theorem tX6_fault_10 : tbX6_fault 10 = (.getfield 16, 13, 6, 1, 0, 0, [(0, 0)]) := rfl
theorem tX6_fault_13 : tbX6_fault 13 = (.aload_n 0, 14, 0, 0, 0, 0, []) := rfl
theorem tX6_fault_14 : tbX6_fault 14 = (.getfield 12, 17, 6, 0, 0, 0, [(0, 0)]) := rfl
theorem tX6_fault_17 : tbX6_fault 17 = (.invokevirtual 89, 20, 1, 1, 0, 0, []) := rfl
theorem tX6_fault_20 : tbX6_fault 20 = (.aload_n 0, 21, 0, 0, 0, 0, []) := rfl
theorem tX6_fault_21 : tbX6_fault 21 = (.getfield 29, 24, 6, 3, 0, 0, [(0, 0)]) := rfl
theorem tX6_fault_24 : tbX6_fault 24 = (.aload_n 0, 25, 0, 0, 0, 0, []) := rfl
theorem tX6_fault_25 : tbX6_fault 25 = (.getfield 16, 28, 6, 1, 0, 0, [(0, 0)]) := rfl
theorem tX6_fault_28 : tbX6_fault 28 = (.invokevirtual 141, 31, 42, 1, 1, 0, []) := rfl
theorem tX6_fault_31 : tbX6_fault 31 = (.pop, 32, 0, 0, 0, 0, []) := rfl
theorem tX6_fault_32 : tbX6_fault 32 = (.aload_n 0, 33, 0, 0, 0, 0, []) := rfl
theorem tX6_fault_33 : tbX6_fault 33 = (.getfield 29, 36, 6, 3, 0, 0, [(0, 0)]) := rfl
theorem tX6_fault_36 : tbX6_fault 36 = (.getfield 144, 39, 1, 6, 0, 0, []) := rfl
theorem tX6_fault_39 : tbX6_fault 39 = (.ifCond .ne 6, 42, 45, 0, 0, 0, []) := rfl
theorem tX6_fault_42 : tbX6_fault 42 = (.bipush (-4), 44, 0, 0, 0, -4, []) := rfl
theorem tX6_fault_44 : tbX6_fault 44 = (.ireturn, 45, 0, 0, 0, 0, []) := rfl
theorem tX6_fault_45 : tbX6_fault 45 = (.iload_n 1, 46, 0, 0, 0, 0, []) := rfl
theorem tX6_fault_46 : tbX6_fault 46 = (.ifCond .ne 13, 49, 59, 0, 0, 0, []) := rfl
theorem tX6_fault_49 : tbX6_fault 49 = (.aload_n 0, 50, 0, 0, 0, 0, []) := rfl
theorem tX6_fault_50 : tbX6_fault 50 = (.getfield 29, 53, 6, 3, 0, 0, [(0, 0)]) := rfl
theorem tX6_fault_53 : tbX6_fault 53 = (.getfield 147, 56, 1, 2, 0, 0, []) := rfl
theorem tX6_fault_56 : tbX6_fault 56 = (.goto 10, 59, 66, 0, 0, 0, []) := rfl
theorem tX6_fault_59 : tbX6_fault 59 = (.aload_n 0, 60, 0, 0, 0, 0, []) := rfl
theorem tX6_fault_60 : tbX6_fault 60 = (.getfield 29, 63, 6, 3, 0, 0, [(0, 0)]) := rfl
theorem tX6_fault_63 : tbX6_fault 63 = (.getfield 144, 66, 1, 6, 0, 0, []) := rfl
theorem tX6_fault_66 : tbX6_fault 66 = (.ireturn, 67, 0, 0, 0, 0, []) := rfl
def ltX6_play : List (Nat × pm_E) := [(0, .aload_n 0, 1, 0, 0, 0, 0, []), (1, .getfield 16, 4, 6, 1, 0, 0, [(0, 0)]), (4, .aload_n 0, 5, 0, 0, 0, 0, []), (5, .getfield 12, 8, 6, 0, 0, 0, [(0, 0)]), (8, .invokevirtual 89, 11, 1, 1, 0, 0, []), (11, .aload_n 0, 12, 0, 0, 0, 0, []), (12, .getfield 29, 15, 6, 3, 0, 0, [(0, 0)]), (15, .aload_n 0, 16, 0, 0, 0, 0, []), (16, .getfield 16, 19, 6, 1, 0, 0, [(0, 0)]), (19, .invokevirtual 141, 22, 42, 1, 1, 0, []), (22, .istore_n 1, 23, 0, 0, 0, 0, []), (23, .aload_n 0, 24, 0, 0, 0, 0, []), (24, .getfield 29, 27, 6, 3, 0, 0, [(0, 0)]), (27, .getfield 144, 30, 1, 6, 0, 0, []), (30, .ifCond .eq 6, 33, 36, 0, 0, 0, []), (33, .bipush (-2), 35, 0, 0, 0, -2, []), (35, .ireturn, 36, 0, 0, 0, 0, []), (36, .aload_n 0, 37, 0, 0, 0, 0, []), (37, .getfield 22, 40, 6, 2, 0, 0, [(0, 0)]), (40, .aload_n 0, 41, 0, 0, 0, 0, []), (41, .getfield 12, 44, 6, 0, 0, 0, [(0, 0)]), (44, .invokevirtual 33, 47, 51, 1, 2, 0, []), (47, .aload_n 0, 48, 0, 0, 0, 0, []), (48, .getfield 12, 51, 6, 0, 0, 0, [(0, 0)]), (51, .aload_n 0, 52, 0, 0, 0, 0, []), (52, .getfield 16, 55, 6, 1, 0, 0, [(0, 0)]), (55, .invokevirtual 89, 58, 1, 1, 0, 0, []), (58, .aload_n 0, 59, 0, 0, 0, 0, []), (59, .getfield 22, 62, 6, 2, 0, 0, [(0, 0)]), (62, .iload_n 1, 63, 0, 0, 0, 0, []), (63, .invokevirtual 41, 66, 52, 1, 2, 0, []), (66, .ireturn, 67, 0, 0, 0, 0, [])]
def tbX6_play : Nat → pm_E := pm_lk ltX6_play
theorem okX6_play : ∀ pc, (tbX6_play pc).1 = .nop ∨ pm_ok mX6_play pw_Ms pc (tbX6_play pc) := pm_lk_ok (by decide +kernel)
theorem nr_X6_play : mX6_play.2.2.2 = (some .int) := rfl
theorem tX6_play_0 : tbX6_play 0 = (.aload_n 0, 1, 0, 0, 0, 0, []) := rfl
theorem tX6_play_1 : tbX6_play 1 = (.getfield 16, 4, 6, 1, 0, 0, [(0, 0)]) := rfl
theorem tX6_play_4 : tbX6_play 4 = (.aload_n 0, 5, 0, 0, 0, 0, []) := rfl
theorem tX6_play_5 : tbX6_play 5 = (.getfield 12, 8, 6, 0, 0, 0, [(0, 0)]) := rfl
theorem tX6_play_8 : tbX6_play 8 = (.invokevirtual 89, 11, 1, 1, 0, 0, []) := rfl
theorem tX6_play_11 : tbX6_play 11 = (.aload_n 0, 12, 0, 0, 0, 0, []) := rfl
theorem tX6_play_12 : tbX6_play 12 = (.getfield 29, 15, 6, 3, 0, 0, [(0, 0)]) := rfl
theorem tX6_play_15 : tbX6_play 15 = (.aload_n 0, 16, 0, 0, 0, 0, []) := rfl
theorem tX6_play_16 : tbX6_play 16 = (.getfield 16, 19, 6, 1, 0, 0, [(0, 0)]) := rfl
theorem tX6_play_19 : tbX6_play 19 = (.invokevirtual 141, 22, 42, 1, 1, 0, []) := rfl
theorem tX6_play_22 : tbX6_play 22 = (.istore_n 1, 23, 0, 0, 0, 0, []) := rfl
theorem tX6_play_23 : tbX6_play 23 = (.aload_n 0, 24, 0, 0, 0, 0, []) := rfl
theorem tX6_play_24 : tbX6_play 24 = (.getfield 29, 27, 6, 3, 0, 0, [(0, 0)]) := rfl
theorem tX6_play_27 : tbX6_play 27 = (.getfield 144, 30, 1, 6, 0, 0, []) := rfl
theorem tX6_play_30 : tbX6_play 30 = (.ifCond .eq 6, 33, 36, 0, 0, 0, []) := rfl
theorem tX6_play_33 : tbX6_play 33 = (.bipush (-2), 35, 0, 0, 0, -2, []) := rfl
theorem tX6_play_35 : tbX6_play 35 = (.ireturn, 36, 0, 0, 0, 0, []) := rfl
theorem tX6_play_36 : tbX6_play 36 = (.aload_n 0, 37, 0, 0, 0, 0, []) := rfl
theorem tX6_play_37 : tbX6_play 37 = (.getfield 22, 40, 6, 2, 0, 0, [(0, 0)]) := rfl
theorem tX6_play_40 : tbX6_play 40 = (.aload_n 0, 41, 0, 0, 0, 0, []) := rfl
theorem tX6_play_41 : tbX6_play 41 = (.getfield 12, 44, 6, 0, 0, 0, [(0, 0)]) := rfl
theorem tX6_play_44 : tbX6_play 44 = (.invokevirtual 33, 47, 51, 1, 2, 0, []) := rfl
theorem tX6_play_47 : tbX6_play 47 = (.aload_n 0, 48, 0, 0, 0, 0, []) := rfl
theorem tX6_play_48 : tbX6_play 48 = (.getfield 12, 51, 6, 0, 0, 0, [(0, 0)]) := rfl
theorem tX6_play_51 : tbX6_play 51 = (.aload_n 0, 52, 0, 0, 0, 0, []) := rfl
theorem tX6_play_52 : tbX6_play 52 = (.getfield 16, 55, 6, 1, 0, 0, [(0, 0)]) := rfl
theorem tX6_play_55 : tbX6_play 55 = (.invokevirtual 89, 58, 1, 1, 0, 0, []) := rfl
theorem tX6_play_58 : tbX6_play 58 = (.aload_n 0, 59, 0, 0, 0, 0, []) := rfl
theorem tX6_play_59 : tbX6_play 59 = (.getfield 22, 62, 6, 2, 0, 0, [(0, 0)]) := rfl
theorem tX6_play_62 : tbX6_play 62 = (.iload_n 1, 63, 0, 0, 0, 0, []) := rfl
theorem tX6_play_63 : tbX6_play 63 = (.invokevirtual 41, 66, 52, 1, 2, 0, []) := rfl
theorem tX6_play_66 : tbX6_play 66 = (.ireturn, 67, 0, 0, 0, 0, []) := rfl
def ltX6_isBit : List (Nat × pm_E) := [(0, .iload_n 0, 1, 0, 0, 0, 0, []), (1, .ifCond .eq 8, 4, 9, 0, 0, 0, []), (4, .iload_n 0, 5, 0, 0, 0, 0, []), (5, .iconst 1, 6, 0, 0, 0, 1, []), (6, .if_icmp .ne 7, 9, 13, 0, 0, 0, []), (9, .iconst 1, 10, 0, 0, 0, 1, []), (10, .goto 4, 13, 14, 0, 0, 0, []), (13, .iconst 0, 14, 0, 0, 0, 0, []), (14, .ireturn, 15, 0, 0, 0, 0, [])]
def tbX6_isBit : Nat → pm_E := pm_lk ltX6_isBit
theorem okX6_isBit : ∀ pc, (tbX6_isBit pc).1 = .nop ∨ pm_ok mX6_isBit pw_Ms pc (tbX6_isBit pc) := pm_lk_ok (by decide +kernel)
theorem nr_X6_isBit : mX6_isBit.2.2.2 = (some .boolean) := rfl
theorem tX6_isBit_0 : tbX6_isBit 0 = (.iload_n 0, 1, 0, 0, 0, 0, []) := rfl
theorem tX6_isBit_1 : tbX6_isBit 1 = (.ifCond .eq 8, 4, 9, 0, 0, 0, []) := rfl
theorem tX6_isBit_4 : tbX6_isBit 4 = (.iload_n 0, 5, 0, 0, 0, 0, []) := rfl
theorem tX6_isBit_5 : tbX6_isBit 5 = (.iconst 1, 6, 0, 0, 0, 1, []) := rfl
theorem tX6_isBit_6 : tbX6_isBit 6 = (.if_icmp .ne 7, 9, 13, 0, 0, 0, []) := rfl
theorem tX6_isBit_9 : tbX6_isBit 9 = (.iconst 1, 10, 0, 0, 0, 1, []) := rfl
theorem tX6_isBit_10 : tbX6_isBit 10 = (.goto 4, 13, 14, 0, 0, 0, []) := rfl
theorem tX6_isBit_13 : tbX6_isBit 13 = (.iconst 0, 14, 0, 0, 0, 0, []) := rfl
theorem tX6_isBit_14 : tbX6_isBit 14 = (.ireturn, 15, 0, 0, 0, 0, []) := rfl
def ltX6_asBit : List (Nat × pm_E) := [(0, .iload_n 0, 1, 0, 0, 0, 0, []), (1, .ifCond .eq 7, 4, 8, 0, 0, 0, []), (4, .iconst 1, 5, 0, 0, 0, 1, []), (5, .goto 4, 8, 9, 0, 0, 0, []), (8, .iconst 0, 9, 0, 0, 0, 0, []), (9, .ireturn, 10, 0, 0, 0, 0, [])]
def tbX6_asBit : Nat → pm_E := pm_lk ltX6_asBit
theorem okX6_asBit : ∀ pc, (tbX6_asBit pc).1 = .nop ∨ pm_ok mX6_asBit pw_Ms pc (tbX6_asBit pc) := pm_lk_ok (by decide +kernel)
theorem nr_X6_asBit : mX6_asBit.2.2.2 = (some .int) := rfl
theorem tX6_asBit_0 : tbX6_asBit 0 = (.iload_n 0, 1, 0, 0, 0, 0, []) := rfl
theorem tX6_asBit_1 : tbX6_asBit 1 = (.ifCond .eq 7, 4, 8, 0, 0, 0, []) := rfl
theorem tX6_asBit_4 : tbX6_asBit 4 = (.iconst 1, 5, 0, 0, 0, 1, []) := rfl
theorem tX6_asBit_5 : tbX6_asBit 5 = (.goto 4, 8, 9, 0, 0, 0, []) := rfl
theorem tX6_asBit_8 : tbX6_asBit 8 = (.iconst 0, 9, 0, 0, 0, 0, []) := rfl
theorem tX6_asBit_9 : tbX6_asBit 9 = (.ireturn, 10, 0, 0, 0, 0, []) := rfl
def ltJ6_bitCount_0f7a4 : List (Nat × pm_E) := [(0, .iload_n 0, 1, 0, 0, 0, 0, []), (1, .iload_n 0, 2, 0, 0, 0, 0, []), (2, .iconst 1, 3, 0, 0, 0, 1, []), (3, .iushr, 4, 0, 0, 0, 0, []), (4, .ldc_w 265, 7, 0, 0, 0, 1431655765, []), (7, .iand, 8, 0, 0, 0, 0, []), (8, .isub, 9, 0, 0, 0, 0, []), (9, .istore_n 0, 10, 0, 0, 0, 0, []), (10, .iload_n 0, 11, 0, 0, 0, 0, []), (11, .ldc_w 266, 14, 0, 0, 0, 858993459, []), (14, .iand, 15, 0, 0, 0, 0, []), (15, .iload_n 0, 16, 0, 0, 0, 0, []), (16, .iconst 2, 17, 0, 0, 0, 2, []), (17, .iushr, 18, 0, 0, 0, 0, []), (18, .ldc_w 266, 21, 0, 0, 0, 858993459, []), (21, .iand, 22, 0, 0, 0, 0, []), (22, .iadd, 23, 0, 0, 0, 0, []), (23, .istore_n 0, 24, 0, 0, 0, 0, []), (24, .iload_n 0, 25, 0, 0, 0, 0, []), (25, .iload_n 0, 26, 0, 0, 0, 0, []), (26, .iconst 4, 27, 0, 0, 0, 4, []), (27, .iushr, 28, 0, 0, 0, 0, []), (28, .iadd, 29, 0, 0, 0, 0, []), (29, .ldc_w 267, 32, 0, 0, 0, 252645135, []), (32, .iand, 33, 0, 0, 0, 0, []), (33, .istore_n 0, 34, 0, 0, 0, 0, []), (34, .iload_n 0, 35, 0, 0, 0, 0, []), (35, .iload_n 0, 36, 0, 0, 0, 0, []), (36, .bipush 8, 38, 0, 0, 0, 8, []), (38, .iushr, 39, 0, 0, 0, 0, []), (39, .iadd, 40, 0, 0, 0, 0, []), (40, .istore_n 0, 41, 0, 0, 0, 0, []), (41, .iload_n 0, 42, 0, 0, 0, 0, []), (42, .iload_n 0, 43, 0, 0, 0, 0, []), (43, .bipush 16, 45, 0, 0, 0, 16, []), (45, .iushr, 46, 0, 0, 0, 0, []), (46, .iadd, 47, 0, 0, 0, 0, []), (47, .istore_n 0, 48, 0, 0, 0, 0, []), (48, .iload_n 0, 49, 0, 0, 0, 0, []), (49, .bipush 63, 51, 0, 0, 0, 63, []), (51, .iand, 52, 0, 0, 0, 0, []), (52, .ireturn, 53, 0, 0, 0, 0, [])]
def tbJ6_bitCount_0f7a4 : Nat → pm_E := pm_lk ltJ6_bitCount_0f7a4
theorem okJ6_bitCount_0f7a4 : ∀ pc, (tbJ6_bitCount_0f7a4 pc).1 = .nop ∨ pm_ok mJ6_bitCount_0f7a4 pw_Ms pc (tbJ6_bitCount_0f7a4 pc) := pm_lk_ok (by decide +kernel)
theorem nr_J6_bitCount_0f7a4 : mJ6_bitCount_0f7a4.2.2.2 = (some .int) := rfl
theorem tJ6_bitCount_0f7a4_0 : tbJ6_bitCount_0f7a4 0 = (.iload_n 0, 1, 0, 0, 0, 0, []) := rfl
theorem tJ6_bitCount_0f7a4_1 : tbJ6_bitCount_0f7a4 1 = (.iload_n 0, 2, 0, 0, 0, 0, []) := rfl
theorem tJ6_bitCount_0f7a4_2 : tbJ6_bitCount_0f7a4 2 = (.iconst 1, 3, 0, 0, 0, 1, []) := rfl
theorem tJ6_bitCount_0f7a4_3 : tbJ6_bitCount_0f7a4 3 = (.iushr, 4, 0, 0, 0, 0, []) := rfl
theorem tJ6_bitCount_0f7a4_4 : tbJ6_bitCount_0f7a4 4 = (.ldc_w 265, 7, 0, 0, 0, 1431655765, []) := rfl
theorem tJ6_bitCount_0f7a4_7 : tbJ6_bitCount_0f7a4 7 = (.iand, 8, 0, 0, 0, 0, []) := rfl
theorem tJ6_bitCount_0f7a4_8 : tbJ6_bitCount_0f7a4 8 = (.isub, 9, 0, 0, 0, 0, []) := rfl
theorem tJ6_bitCount_0f7a4_9 : tbJ6_bitCount_0f7a4 9 = (.istore_n 0, 10, 0, 0, 0, 0, []) := rfl
theorem tJ6_bitCount_0f7a4_10 : tbJ6_bitCount_0f7a4 10 = (.iload_n 0, 11, 0, 0, 0, 0, []) := rfl
theorem tJ6_bitCount_0f7a4_11 : tbJ6_bitCount_0f7a4 11 = (.ldc_w 266, 14, 0, 0, 0, 858993459, []) := rfl
theorem tJ6_bitCount_0f7a4_14 : tbJ6_bitCount_0f7a4 14 = (.iand, 15, 0, 0, 0, 0, []) := rfl
theorem tJ6_bitCount_0f7a4_15 : tbJ6_bitCount_0f7a4 15 = (.iload_n 0, 16, 0, 0, 0, 0, []) := rfl
theorem tJ6_bitCount_0f7a4_16 : tbJ6_bitCount_0f7a4 16 = (.iconst 2, 17, 0, 0, 0, 2, []) := rfl
theorem tJ6_bitCount_0f7a4_17 : tbJ6_bitCount_0f7a4 17 = (.iushr, 18, 0, 0, 0, 0, []) := rfl
theorem tJ6_bitCount_0f7a4_18 : tbJ6_bitCount_0f7a4 18 = (.ldc_w 266, 21, 0, 0, 0, 858993459, []) := rfl
theorem tJ6_bitCount_0f7a4_21 : tbJ6_bitCount_0f7a4 21 = (.iand, 22, 0, 0, 0, 0, []) := rfl
theorem tJ6_bitCount_0f7a4_22 : tbJ6_bitCount_0f7a4 22 = (.iadd, 23, 0, 0, 0, 0, []) := rfl
theorem tJ6_bitCount_0f7a4_23 : tbJ6_bitCount_0f7a4 23 = (.istore_n 0, 24, 0, 0, 0, 0, []) := rfl
theorem tJ6_bitCount_0f7a4_24 : tbJ6_bitCount_0f7a4 24 = (.iload_n 0, 25, 0, 0, 0, 0, []) := rfl
theorem tJ6_bitCount_0f7a4_25 : tbJ6_bitCount_0f7a4 25 = (.iload_n 0, 26, 0, 0, 0, 0, []) := rfl
theorem tJ6_bitCount_0f7a4_26 : tbJ6_bitCount_0f7a4 26 = (.iconst 4, 27, 0, 0, 0, 4, []) := rfl
theorem tJ6_bitCount_0f7a4_27 : tbJ6_bitCount_0f7a4 27 = (.iushr, 28, 0, 0, 0, 0, []) := rfl
theorem tJ6_bitCount_0f7a4_28 : tbJ6_bitCount_0f7a4 28 = (.iadd, 29, 0, 0, 0, 0, []) := rfl
theorem tJ6_bitCount_0f7a4_29 : tbJ6_bitCount_0f7a4 29 = (.ldc_w 267, 32, 0, 0, 0, 252645135, []) := rfl
theorem tJ6_bitCount_0f7a4_32 : tbJ6_bitCount_0f7a4 32 = (.iand, 33, 0, 0, 0, 0, []) := rfl
theorem tJ6_bitCount_0f7a4_33 : tbJ6_bitCount_0f7a4 33 = (.istore_n 0, 34, 0, 0, 0, 0, []) := rfl
theorem tJ6_bitCount_0f7a4_34 : tbJ6_bitCount_0f7a4 34 = (.iload_n 0, 35, 0, 0, 0, 0, []) := rfl
theorem tJ6_bitCount_0f7a4_35 : tbJ6_bitCount_0f7a4 35 = (.iload_n 0, 36, 0, 0, 0, 0, []) := rfl
theorem tJ6_bitCount_0f7a4_36 : tbJ6_bitCount_0f7a4 36 = (.bipush 8, 38, 0, 0, 0, 8, []) := rfl
theorem tJ6_bitCount_0f7a4_38 : tbJ6_bitCount_0f7a4 38 = (.iushr, 39, 0, 0, 0, 0, []) := rfl
theorem tJ6_bitCount_0f7a4_39 : tbJ6_bitCount_0f7a4 39 = (.iadd, 40, 0, 0, 0, 0, []) := rfl
theorem tJ6_bitCount_0f7a4_40 : tbJ6_bitCount_0f7a4 40 = (.istore_n 0, 41, 0, 0, 0, 0, []) := rfl
theorem tJ6_bitCount_0f7a4_41 : tbJ6_bitCount_0f7a4 41 = (.iload_n 0, 42, 0, 0, 0, 0, []) := rfl
theorem tJ6_bitCount_0f7a4_42 : tbJ6_bitCount_0f7a4 42 = (.iload_n 0, 43, 0, 0, 0, 0, []) := rfl
theorem tJ6_bitCount_0f7a4_43 : tbJ6_bitCount_0f7a4 43 = (.bipush 16, 45, 0, 0, 0, 16, []) := rfl
theorem tJ6_bitCount_0f7a4_45 : tbJ6_bitCount_0f7a4 45 = (.iushr, 46, 0, 0, 0, 0, []) := rfl
theorem tJ6_bitCount_0f7a4_46 : tbJ6_bitCount_0f7a4 46 = (.iadd, 47, 0, 0, 0, 0, []) := rfl
theorem tJ6_bitCount_0f7a4_47 : tbJ6_bitCount_0f7a4 47 = (.istore_n 0, 48, 0, 0, 0, 0, []) := rfl
theorem tJ6_bitCount_0f7a4_48 : tbJ6_bitCount_0f7a4 48 = (.iload_n 0, 49, 0, 0, 0, 0, []) := rfl
theorem tJ6_bitCount_0f7a4_49 : tbJ6_bitCount_0f7a4 49 = (.bipush 63, 51, 0, 0, 0, 63, []) := rfl
theorem tJ6_bitCount_0f7a4_51 : tbJ6_bitCount_0f7a4 51 = (.iand, 52, 0, 0, 0, 0, []) := rfl
theorem tJ6_bitCount_0f7a4_52 : tbJ6_bitCount_0f7a4 52 = (.ireturn, 53, 0, 0, 0, 0, []) := rfl
def ltJ9_max_7cf53 : List (Nat × pm_E) := [(0, .iload_n 0, 1, 0, 0, 0, 0, []), (1, .iload_n 1, 2, 0, 0, 0, 0, []), (2, .if_icmp .lt 7, 5, 9, 0, 0, 0, []), (5, .iload_n 0, 6, 0, 0, 0, 0, []), (6, .goto 4, 9, 10, 0, 0, 0, []), (9, .iload_n 1, 10, 0, 0, 0, 0, []), (10, .ireturn, 11, 0, 0, 0, 0, [])]
def tbJ9_max_7cf53 : Nat → pm_E := pm_lk ltJ9_max_7cf53
theorem okJ9_max_7cf53 : ∀ pc, (tbJ9_max_7cf53 pc).1 = .nop ∨ pm_ok mJ9_max_7cf53 pw_Ms pc (tbJ9_max_7cf53 pc) := pm_lk_ok (by decide +kernel)
theorem nr_J9_max_7cf53 : mJ9_max_7cf53.2.2.2 = (some .int) := rfl
theorem tJ9_max_7cf53_0 : tbJ9_max_7cf53 0 = (.iload_n 0, 1, 0, 0, 0, 0, []) := rfl
theorem tJ9_max_7cf53_1 : tbJ9_max_7cf53 1 = (.iload_n 1, 2, 0, 0, 0, 0, []) := rfl
theorem tJ9_max_7cf53_2 : tbJ9_max_7cf53 2 = (.if_icmp .lt 7, 5, 9, 0, 0, 0, []) := rfl
theorem tJ9_max_7cf53_5 : tbJ9_max_7cf53 5 = (.iload_n 0, 6, 0, 0, 0, 0, []) := rfl
theorem tJ9_max_7cf53_6 : tbJ9_max_7cf53 6 = (.goto 4, 9, 10, 0, 0, 0, []) := rfl
theorem tJ9_max_7cf53_9 : tbJ9_max_7cf53 9 = (.iload_n 1, 10, 0, 0, 0, 0, []) := rfl
theorem tJ9_max_7cf53_10 : tbJ9_max_7cf53 10 = (.ireturn, 11, 0, 0, 0, 0, []) := rfl
end
section
/-! code tables 2, by program -/
def ltX7_init : List (Nat × pm_E) := [(0, .aload_n 0, 1, 0, 0, 0, 0, []), (4, .aload_n 0, 5, 0, 0, 0, 0, []), (5, .sipush 374, 8, 0, 0, 0, 374, []), (13, .aload_n 0, 14, 0, 0, 0, 0, []), (14, .sipush 1496, 17, 0, 0, 0, 1496, []), (22, .aload_n 0, 23, 0, 0, 0, 0, []), (23, .sipush 374, 26, 0, 0, 0, 374, []), (31, .aload_n 0, 32, 0, 0, 0, 0, []), (32, .bipush 16, 34, 0, 0, 0, 16, []), (39, .aload_n 0, 40, 0, 0, 0, 0, []), (40, .bipush 6, 42, 0, 0, 0, 6, []), (47, .aload_n 0, 48, 0, 0, 0, 0, []), (48, .bipush 6, 50, 0, 0, 0, 6, []), (55, .aload_n 0, 56, 0, 0, 0, 0, []), (56, .bipush 60, 58, 0, 0, 0, 60, []), (63, .aload_n 0, 64, 0, 0, 0, 0, []), (64, .getfield 7, 67, 7, 0, 0, 0, [(0, 0)]), (67, .iconst 2, 68, 0, 0, 0, 2, []), (68, .iconst 3, 69, 0, 0, 0, 3, []), (69, .iastore, 70, 0, 0, 0, 0, []), (70, .aload_n 0, 71, 0, 0, 0, 0, []), (71, .getfield 7, 74, 7, 0, 0, 0, [(0, 0)]), (74, .iconst 3, 75, 0, 0, 0, 3, []), (75, .iconst 1, 76, 0, 0, 0, 1, []), (76, .iastore, 77, 0, 0, 0, 0, []), (77, .aload_n 0, 78, 0, 0, 0, 0, []), (78, .getfield 7, 81, 7, 0, 0, 0, [(0, 0)]), (81, .bipush 16, 83, 0, 0, 0, 16, []), (83, .iconst (-1), 84, 0, 0, 0, -1, []), (84, .iastore, 85, 0, 0, 0, 0, []), (85, .return_, 86, 0, 0, 0, 0, [])]
def tbX7_init : Nat → pm_E := pm_lk ltX7_init
theorem okX7_init : ∀ pc, (tbX7_init pc).1 = .nop ∨ pm_ok mX7_init pw_Ms pc (tbX7_init pc) := pm_lk_ok (by decide +kernel)
theorem nr_X7_init : mX7_init.2.2.2 = none := rfl
theorem tX7_init_0 : tbX7_init 0 = (.aload_n 0, 1, 0, 0, 0, 0, []) := rfl
theorem tX7_init_4 : tbX7_init 4 = (.aload_n 0, 5, 0, 0, 0, 0, []) := rfl
theorem tX7_init_5 : tbX7_init 5 = (.sipush 374, 8, 0, 0, 0, 374, []) := rfl
theorem tX7_init_13 : tbX7_init 13 = (.aload_n 0, 14, 0, 0, 0, 0, []) := rfl
theorem tX7_init_14 : tbX7_init 14 = (.sipush 1496, 17, 0, 0, 0, 1496, []) := rfl
theorem tX7_init_22 : tbX7_init 22 = (.aload_n 0, 23, 0, 0, 0, 0, []) := rfl
theorem tX7_init_23 : tbX7_init 23 = (.sipush 374, 26, 0, 0, 0, 374, []) := rfl
theorem tX7_init_31 : tbX7_init 31 = (.aload_n 0, 32, 0, 0, 0, 0, []) := rfl
theorem tX7_init_32 : tbX7_init 32 = (.bipush 16, 34, 0, 0, 0, 16, []) := rfl
theorem tX7_init_39 : tbX7_init 39 = (.aload_n 0, 40, 0, 0, 0, 0, []) := rfl
theorem tX7_init_40 : tbX7_init 40 = (.bipush 6, 42, 0, 0, 0, 6, []) := rfl
theorem tX7_init_47 : tbX7_init 47 = (.aload_n 0, 48, 0, 0, 0, 0, []) := rfl
theorem tX7_init_48 : tbX7_init 48 = (.bipush 6, 50, 0, 0, 0, 6, []) := rfl
theorem tX7_init_55 : tbX7_init 55 = (.aload_n 0, 56, 0, 0, 0, 0, []) := rfl
theorem tX7_init_56 : tbX7_init 56 = (.bipush 60, 58, 0, 0, 0, 60, []) := rfl
theorem tX7_init_63 : tbX7_init 63 = (.aload_n 0, 64, 0, 0, 0, 0, []) := rfl
theorem tX7_init_64 : tbX7_init 64 = (.getfield 7, 67, 7, 0, 0, 0, [(0, 0)]) := rfl
theorem tX7_init_67 : tbX7_init 67 = (.iconst 2, 68, 0, 0, 0, 2, []) := rfl
theorem tX7_init_68 : tbX7_init 68 = (.iconst 3, 69, 0, 0, 0, 3, []) := rfl
theorem tX7_init_69 : tbX7_init 69 = (.iastore, 70, 0, 0, 0, 0, []) := rfl
theorem tX7_init_70 : tbX7_init 70 = (.aload_n 0, 71, 0, 0, 0, 0, []) := rfl
theorem tX7_init_71 : tbX7_init 71 = (.getfield 7, 74, 7, 0, 0, 0, [(0, 0)]) := rfl
theorem tX7_init_74 : tbX7_init 74 = (.iconst 3, 75, 0, 0, 0, 3, []) := rfl
theorem tX7_init_75 : tbX7_init 75 = (.iconst 1, 76, 0, 0, 0, 1, []) := rfl
theorem tX7_init_76 : tbX7_init 76 = (.iastore, 77, 0, 0, 0, 0, []) := rfl
theorem tX7_init_77 : tbX7_init 77 = (.aload_n 0, 78, 0, 0, 0, 0, []) := rfl
theorem tX7_init_78 : tbX7_init 78 = (.getfield 7, 81, 7, 0, 0, 0, [(0, 0)]) := rfl
theorem tX7_init_81 : tbX7_init 81 = (.bipush 16, 83, 0, 0, 0, 16, []) := rfl
theorem tX7_init_83 : tbX7_init 83 = (.iconst (-1), 84, 0, 0, 0, -1, []) := rfl
theorem tX7_init_84 : tbX7_init 84 = (.iastore, 85, 0, 0, 0, 0, []) := rfl
theorem tX7_init_85 : tbX7_init 85 = (.return_, 86, 0, 0, 0, 0, []) := rfl
def ltX7_in : List (Nat × pm_E) := [(0, .iload_n 0, 1, 0, 0, 0, 0, []), (1, .iload_n 1, 2, 0, 0, 0, 0, []), (2, .if_icmp .lt 12, 5, 14, 0, 0, 0, []), (5, .iload_n 0, 6, 0, 0, 0, 0, []), (6, .iload_n 2, 7, 0, 0, 0, 0, []), (7, .if_icmp .gt 7, 10, 14, 0, 0, 0, []), (10, .iconst 1, 11, 0, 0, 0, 1, []), (11, .goto 4, 14, 15, 0, 0, 0, []), (14, .iconst 0, 15, 0, 0, 0, 0, []), (15, .ireturn, 16, 0, 0, 0, 0, [])]
def tbX7_in : Nat → pm_E := pm_lk ltX7_in
theorem okX7_in : ∀ pc, (tbX7_in pc).1 = .nop ∨ pm_ok mX7_in pw_Ms pc (tbX7_in pc) := pm_lk_ok (by decide +kernel)
theorem nr_X7_in : mX7_in.2.2.2 = (some .boolean) := rfl
theorem tX7_in_0 : tbX7_in 0 = (.iload_n 0, 1, 0, 0, 0, 0, []) := rfl
theorem tX7_in_1 : tbX7_in 1 = (.iload_n 1, 2, 0, 0, 0, 0, []) := rfl
theorem tX7_in_2 : tbX7_in 2 = (.if_icmp .lt 12, 5, 14, 0, 0, 0, []) := rfl
theorem tX7_in_5 : tbX7_in 5 = (.iload_n 0, 6, 0, 0, 0, 0, []) := rfl
theorem tX7_in_6 : tbX7_in 6 = (.iload_n 2, 7, 0, 0, 0, 0, []) := rfl
theorem tX7_in_7 : tbX7_in 7 = (.if_icmp .gt 7, 10, 14, 0, 0, 0, []) := rfl
theorem tX7_in_10 : tbX7_in 10 = (.iconst 1, 11, 0, 0, 0, 1, []) := rfl
theorem tX7_in_11 : tbX7_in 11 = (.goto 4, 14, 15, 0, 0, 0, []) := rfl
theorem tX7_in_14 : tbX7_in 14 = (.iconst 0, 15, 0, 0, 0, 0, []) := rfl
theorem tX7_in_15 : tbX7_in 15 = (.ireturn, 16, 0, 0, 0, 0, []) := rfl
def ltX7_record : List (Nat × pm_E) := [(0, .aload_n 0, 1, 0, 0, 0, 0, []), (1, .getfield 31, 4, 7, 8, 0, 0, []), (4, .iconst 4, 5, 0, 0, 0, 4, []), (5, .if_icmp .ne 44, 8, 49, 0, 0, 0, []), (8, .iconst 0, 9, 0, 0, 0, 0, []), (9, .istore_n 1, 10, 0, 0, 0, 0, []), (10, .iload_n 1, 11, 0, 0, 0, 0, []), (11, .sipush 1122, 14, 0, 0, 0, 1122, []), (14, .if_icmp .ge 25, 17, 39, 0, 0, 0, []), (17, .aload_n 0, 18, 0, 0, 0, 0, []), (18, .getfield 13, 21, 7, 1, 0, 0, [(0, 0)]), (21, .iload_n 1, 22, 0, 0, 0, 0, []), (22, .aload_n 0, 23, 0, 0, 0, 0, []), (23, .getfield 13, 26, 7, 1, 0, 0, [(0, 0)]), (26, .sipush 374, 29, 0, 0, 0, 374, []), (29, .iload_n 1, 30, 0, 0, 0, 0, []), (30, .iadd, 31, 0, 0, 0, 0, []), (31, .iaload, 32, 0, 0, 0, 0, []), (32, .iastore, 33, 0, 0, 0, 0, []), (33, .iinc 1 1, 36, 0, 0, 0, 1, []), (36, .goto (-26), 39, 10, 0, 0, 0, []), (39, .aload_n 0, 40, 0, 0, 0, 0, []), (40, .dup, 41, 0, 0, 0, 0, []), (41, .getfield 31, 44, 7, 8, 0, 0, []), (44, .iconst 1, 45, 0, 0, 0, 1, []), (45, .isub, 46, 0, 0, 0, 0, []), (46, .putfield 31, 49, 7, 8, 0, 0, []), (49, .iconst 0, 50, 0, 0, 0, 0, []), (50, .istore_n 1, 51, 0, 0, 0, 0, []), (51, .iload_n 1, 52, 0, 0, 0, 0, []), (52, .sipush 374, 55, 0, 0, 0, 374, []), (55, .if_icmp .ge 30, 58, 85, 0, 0, 0, []), (58, .aload_n 0, 59, 0, 0, 0, 0, []), (59, .getfield 13, 62, 7, 1, 0, 0, [(0, 0)]), (62, .sipush 374, 65, 0, 0, 0, 374, []), (65, .aload_n 0, 66, 0, 0, 0, 0, []), (66, .getfield 31, 69, 7, 8, 0, 0, []), (69, .imul, 70, 0, 0, 0, 0, []), (70, .iload_n 1, 71, 0, 0, 0, 0, []), (71, .iadd, 72, 0, 0, 0, 0, []), (72, .aload_n 0, 73, 0, 0, 0, 0, []), (73, .getfield 7, 76, 7, 0, 0, 0, [(0, 0)]), (76, .iload_n 1, 77, 0, 0, 0, 0, []), (77, .iaload, 78, 0, 0, 0, 0, []), (78, .iastore, 79, 0, 0, 0, 0, []), (79, .iinc 1 1, 82, 0, 0, 0, 1, []), (82, .goto (-31), 85, 51, 0, 0, 0, []), (85, .aload_n 0, 86, 0, 0, 0, 0, []), (86, .dup, 87, 0, 0, 0, 0, []), (87, .getfield 31, 90, 7, 8, 0, 0, []), (90, .iconst 1, 91, 0, 0, 0, 1, []), (91, .iadd, 92, 0, 0, 0, 0, []), (92, .putfield 31, 95, 7, 8, 0, 0, []), (95, .return_, 96, 0, 0, 0, 0, [])]
def tbX7_record : Nat → pm_E := pm_lk ltX7_record
theorem okX7_record : ∀ pc, (tbX7_record pc).1 = .nop ∨ pm_ok mX7_record pw_Ms pc (tbX7_record pc) := pm_lk_ok (by decide +kernel)
theorem nr_X7_record : mX7_record.2.2.2 = none := rfl
theorem tX7_record_0 : tbX7_record 0 = (.aload_n 0, 1, 0, 0, 0, 0, []) := rfl
theorem tX7_record_1 : tbX7_record 1 = (.getfield 31, 4, 7, 8, 0, 0, []) := rfl
theorem tX7_record_4 : tbX7_record 4 = (.iconst 4, 5, 0, 0, 0, 4, []) := rfl
theorem tX7_record_5 : tbX7_record 5 = (.if_icmp .ne 44, 8, 49, 0, 0, 0, []) := rfl
theorem tX7_record_8 : tbX7_record 8 = (.iconst 0, 9, 0, 0, 0, 0, []) := rfl
theorem tX7_record_9 : tbX7_record 9 = (.istore_n 1, 10, 0, 0, 0, 0, []) := rfl
theorem tX7_record_10 : tbX7_record 10 = (.iload_n 1, 11, 0, 0, 0, 0, []) := rfl
theorem tX7_record_11 : tbX7_record 11 = (.sipush 1122, 14, 0, 0, 0, 1122, []) := rfl
theorem tX7_record_14 : tbX7_record 14 = (.if_icmp .ge 25, 17, 39, 0, 0, 0, []) := rfl
theorem tX7_record_17 : tbX7_record 17 = (.aload_n 0, 18, 0, 0, 0, 0, []) := rfl
theorem tX7_record_18 : tbX7_record 18 = (.getfield 13, 21, 7, 1, 0, 0, [(0, 0)]) := rfl
theorem tX7_record_21 : tbX7_record 21 = (.iload_n 1, 22, 0, 0, 0, 0, []) := rfl
theorem tX7_record_22 : tbX7_record 22 = (.aload_n 0, 23, 0, 0, 0, 0, []) := rfl
theorem tX7_record_23 : tbX7_record 23 = (.getfield 13, 26, 7, 1, 0, 0, [(0, 0)]) := rfl
theorem tX7_record_26 : tbX7_record 26 = (.sipush 374, 29, 0, 0, 0, 374, []) := rfl
theorem tX7_record_29 : tbX7_record 29 = (.iload_n 1, 30, 0, 0, 0, 0, []) := rfl
theorem tX7_record_30 : tbX7_record 30 = (.iadd, 31, 0, 0, 0, 0, []) := rfl
theorem tX7_record_31 : tbX7_record 31 = (.iaload, 32, 0, 0, 0, 0, []) := rfl
theorem tX7_record_32 : tbX7_record 32 = (.iastore, 33, 0, 0, 0, 0, []) := rfl
theorem tX7_record_33 : tbX7_record 33 = (.iinc 1 1, 36, 0, 0, 0, 1, []) := rfl
theorem tX7_record_36 : tbX7_record 36 = (.goto (-26), 39, 10, 0, 0, 0, []) := rfl
theorem tX7_record_39 : tbX7_record 39 = (.aload_n 0, 40, 0, 0, 0, 0, []) := rfl
theorem tX7_record_40 : tbX7_record 40 = (.dup, 41, 0, 0, 0, 0, []) := rfl
theorem tX7_record_41 : tbX7_record 41 = (.getfield 31, 44, 7, 8, 0, 0, []) := rfl
theorem tX7_record_44 : tbX7_record 44 = (.iconst 1, 45, 0, 0, 0, 1, []) := rfl
theorem tX7_record_45 : tbX7_record 45 = (.isub, 46, 0, 0, 0, 0, []) := rfl
theorem tX7_record_46 : tbX7_record 46 = (.putfield 31, 49, 7, 8, 0, 0, []) := rfl
theorem tX7_record_49 : tbX7_record 49 = (.iconst 0, 50, 0, 0, 0, 0, []) := rfl
theorem tX7_record_50 : tbX7_record 50 = (.istore_n 1, 51, 0, 0, 0, 0, []) := rfl
theorem tX7_record_51 : tbX7_record 51 = (.iload_n 1, 52, 0, 0, 0, 0, []) := rfl
theorem tX7_record_52 : tbX7_record 52 = (.sipush 374, 55, 0, 0, 0, 374, []) := rfl
theorem tX7_record_55 : tbX7_record 55 = (.if_icmp .ge 30, 58, 85, 0, 0, 0, []) := rfl
theorem tX7_record_58 : tbX7_record 58 = (.aload_n 0, 59, 0, 0, 0, 0, []) := rfl
theorem tX7_record_59 : tbX7_record 59 = (.getfield 13, 62, 7, 1, 0, 0, [(0, 0)]) := rfl
theorem tX7_record_62 : tbX7_record 62 = (.sipush 374, 65, 0, 0, 0, 374, []) := rfl
theorem tX7_record_65 : tbX7_record 65 = (.aload_n 0, 66, 0, 0, 0, 0, []) := rfl
theorem tX7_record_66 : tbX7_record 66 = (.getfield 31, 69, 7, 8, 0, 0, []) := rfl
theorem tX7_record_69 : tbX7_record 69 = (.imul, 70, 0, 0, 0, 0, []) := rfl
theorem tX7_record_70 : tbX7_record 70 = (.iload_n 1, 71, 0, 0, 0, 0, []) := rfl
theorem tX7_record_71 : tbX7_record 71 = (.iadd, 72, 0, 0, 0, 0, []) := rfl
theorem tX7_record_72 : tbX7_record 72 = (.aload_n 0, 73, 0, 0, 0, 0, []) := rfl
theorem tX7_record_73 : tbX7_record 73 = (.getfield 7, 76, 7, 0, 0, 0, [(0, 0)]) := rfl
theorem tX7_record_76 : tbX7_record 76 = (.iload_n 1, 77, 0, 0, 0, 0, []) := rfl
theorem tX7_record_77 : tbX7_record 77 = (.iaload, 78, 0, 0, 0, 0, []) := rfl
theorem tX7_record_78 : tbX7_record 78 = (.iastore, 79, 0, 0, 0, 0, []) := rfl
theorem tX7_record_79 : tbX7_record 79 = (.iinc 1 1, 82, 0, 0, 0, 1, []) := rfl
theorem tX7_record_82 : tbX7_record 82 = (.goto (-31), 85, 51, 0, 0, 0, []) := rfl
theorem tX7_record_85 : tbX7_record 85 = (.aload_n 0, 86, 0, 0, 0, 0, []) := rfl
theorem tX7_record_86 : tbX7_record 86 = (.dup, 87, 0, 0, 0, 0, []) := rfl
theorem tX7_record_87 : tbX7_record 87 = (.getfield 31, 90, 7, 8, 0, 0, []) := rfl
theorem tX7_record_90 : tbX7_record 90 = (.iconst 1, 91, 0, 0, 0, 1, []) := rfl
theorem tX7_record_91 : tbX7_record 91 = (.iadd, 92, 0, 0, 0, 0, []) := rfl
theorem tX7_record_92 : tbX7_record 92 = (.putfield 31, 95, 7, 8, 0, 0, []) := rfl
theorem tX7_record_95 : tbX7_record 95 = (.return_, 96, 0, 0, 0, 0, []) := rfl
def ltX7_layAside : List (Nat × pm_E) := [(0, .iconst 0, 1, 0, 0, 0, 0, []), (1, .istore_n 1, 2, 0, 0, 0, 0, []), (2, .iload_n 1, 3, 0, 0, 0, 0, []), (3, .sipush 374, 6, 0, 0, 0, 374, []), (6, .if_icmp .ge 21, 9, 27, 0, 0, 0, []), (9, .aload_n 0, 10, 0, 0, 0, 0, []), (10, .getfield 16, 13, 7, 2, 0, 0, [(0, 0)]), (13, .iload_n 1, 14, 0, 0, 0, 0, []), (14, .aload_n 0, 15, 0, 0, 0, 0, []), (15, .getfield 7, 18, 7, 0, 0, 0, [(0, 0)]), (18, .iload_n 1, 19, 0, 0, 0, 0, []), (19, .iaload, 20, 0, 0, 0, 0, []), (20, .iastore, 21, 0, 0, 0, 0, []), (21, .iinc 1 1, 24, 0, 0, 0, 1, []), (24, .goto (-22), 27, 2, 0, 0, 0, []), (27, .return_, 28, 0, 0, 0, 0, [])]
def tbX7_layAside : Nat → pm_E := pm_lk ltX7_layAside
theorem okX7_layAside : ∀ pc, (tbX7_layAside pc).1 = .nop ∨ pm_ok mX7_layAside pw_Ms pc (tbX7_layAside pc) := pm_lk_ok (by decide +kernel)
theorem nr_X7_layAside : mX7_layAside.2.2.2 = none := rfl
theorem tX7_layAside_0 : tbX7_layAside 0 = (.iconst 0, 1, 0, 0, 0, 0, []) := rfl
theorem tX7_layAside_1 : tbX7_layAside 1 = (.istore_n 1, 2, 0, 0, 0, 0, []) := rfl
theorem tX7_layAside_2 : tbX7_layAside 2 = (.iload_n 1, 3, 0, 0, 0, 0, []) := rfl
theorem tX7_layAside_3 : tbX7_layAside 3 = (.sipush 374, 6, 0, 0, 0, 374, []) := rfl
theorem tX7_layAside_6 : tbX7_layAside 6 = (.if_icmp .ge 21, 9, 27, 0, 0, 0, []) := rfl
theorem tX7_layAside_9 : tbX7_layAside 9 = (.aload_n 0, 10, 0, 0, 0, 0, []) := rfl
theorem tX7_layAside_10 : tbX7_layAside 10 = (.getfield 16, 13, 7, 2, 0, 0, [(0, 0)]) := rfl
theorem tX7_layAside_13 : tbX7_layAside 13 = (.iload_n 1, 14, 0, 0, 0, 0, []) := rfl
theorem tX7_layAside_14 : tbX7_layAside 14 = (.aload_n 0, 15, 0, 0, 0, 0, []) := rfl
theorem tX7_layAside_15 : tbX7_layAside 15 = (.getfield 7, 18, 7, 0, 0, 0, [(0, 0)]) := rfl
theorem tX7_layAside_18 : tbX7_layAside 18 = (.iload_n 1, 19, 0, 0, 0, 0, []) := rfl
theorem tX7_layAside_19 : tbX7_layAside 19 = (.iaload, 20, 0, 0, 0, 0, []) := rfl
theorem tX7_layAside_20 : tbX7_layAside 20 = (.iastore, 21, 0, 0, 0, 0, []) := rfl
theorem tX7_layAside_21 : tbX7_layAside 21 = (.iinc 1 1, 24, 0, 0, 0, 1, []) := rfl
theorem tX7_layAside_24 : tbX7_layAside 24 = (.goto (-22), 27, 2, 0, 0, 0, []) := rfl
theorem tX7_layAside_27 : tbX7_layAside 27 = (.return_, 28, 0, 0, 0, 0, []) := rfl
def ltX7_layBack : List (Nat × pm_E) := [(0, .iconst 0, 1, 0, 0, 0, 0, []), (1, .istore_n 1, 2, 0, 0, 0, 0, []), (2, .iload_n 1, 3, 0, 0, 0, 0, []), (3, .sipush 374, 6, 0, 0, 0, 374, []), (6, .if_icmp .ge 21, 9, 27, 0, 0, 0, []), (9, .aload_n 0, 10, 0, 0, 0, 0, []), (10, .getfield 7, 13, 7, 0, 0, 0, [(0, 0)]), (13, .iload_n 1, 14, 0, 0, 0, 0, []), (14, .aload_n 0, 15, 0, 0, 0, 0, []), (15, .getfield 16, 18, 7, 2, 0, 0, [(0, 0)]), (18, .iload_n 1, 19, 0, 0, 0, 0, []), (19, .iaload, 20, 0, 0, 0, 0, []), (20, .iastore, 21, 0, 0, 0, 0, []), (21, .iinc 1 1, 24, 0, 0, 0, 1, []), (24, .goto (-22), 27, 2, 0, 0, 0, []), (27, .return_, 28, 0, 0, 0, 0, [])]
def tbX7_layBack : Nat → pm_E := pm_lk ltX7_layBack
theorem okX7_layBack : ∀ pc, (tbX7_layBack pc).1 = .nop ∨ pm_ok mX7_layBack pw_Ms pc (tbX7_layBack pc) := pm_lk_ok (by decide +kernel)
theorem nr_X7_layBack : mX7_layBack.2.2.2 = none := rfl
theorem tX7_layBack_0 : tbX7_layBack 0 = (.iconst 0, 1, 0, 0, 0, 0, []) := rfl
theorem tX7_layBack_1 : tbX7_layBack 1 = (.istore_n 1, 2, 0, 0, 0, 0, []) := rfl
theorem tX7_layBack_2 : tbX7_layBack 2 = (.iload_n 1, 3, 0, 0, 0, 0, []) := rfl
theorem tX7_layBack_3 : tbX7_layBack 3 = (.sipush 374, 6, 0, 0, 0, 374, []) := rfl
theorem tX7_layBack_6 : tbX7_layBack 6 = (.if_icmp .ge 21, 9, 27, 0, 0, 0, []) := rfl
theorem tX7_layBack_9 : tbX7_layBack 9 = (.aload_n 0, 10, 0, 0, 0, 0, []) := rfl
theorem tX7_layBack_10 : tbX7_layBack 10 = (.getfield 7, 13, 7, 0, 0, 0, [(0, 0)]) := rfl
theorem tX7_layBack_13 : tbX7_layBack 13 = (.iload_n 1, 14, 0, 0, 0, 0, []) := rfl
theorem tX7_layBack_14 : tbX7_layBack 14 = (.aload_n 0, 15, 0, 0, 0, 0, []) := rfl
theorem tX7_layBack_15 : tbX7_layBack 15 = (.getfield 16, 18, 7, 2, 0, 0, [(0, 0)]) := rfl
theorem tX7_layBack_18 : tbX7_layBack 18 = (.iload_n 1, 19, 0, 0, 0, 0, []) := rfl
theorem tX7_layBack_19 : tbX7_layBack 19 = (.iaload, 20, 0, 0, 0, 0, []) := rfl
theorem tX7_layBack_20 : tbX7_layBack 20 = (.iastore, 21, 0, 0, 0, 0, []) := rfl
theorem tX7_layBack_21 : tbX7_layBack 21 = (.iinc 1 1, 24, 0, 0, 0, 1, []) := rfl
theorem tX7_layBack_24 : tbX7_layBack 24 = (.goto (-22), 27, 2, 0, 0, 0, []) := rfl
theorem tX7_layBack_27 : tbX7_layBack 27 = (.return_, 28, 0, 0, 0, 0, []) := rfl
def ltX7_n : List (Nat × pm_E) := [(0, .bipush 16, 2, 0, 0, 0, 16, []), (2, .bipush 25, 4, 0, 0, 0, 25, []), (4, .iload_n 0, 5, 0, 0, 0, 0, []), (5, .imul, 6, 0, 0, 0, 0, []), (6, .iadd, 7, 0, 0, 0, 0, []), (7, .ireturn, 8, 0, 0, 0, 0, [])]
def tbX7_n : Nat → pm_E := pm_lk ltX7_n
theorem okX7_n : ∀ pc, (tbX7_n pc).1 = .nop ∨ pm_ok mX7_n pw_Ms pc (tbX7_n pc) := pm_lk_ok (by decide +kernel)
theorem nr_X7_n : mX7_n.2.2.2 = (some .int) := rfl
theorem tX7_n_0 : tbX7_n 0 = (.bipush 16, 2, 0, 0, 0, 16, []) := rfl
theorem tX7_n_2 : tbX7_n 2 = (.bipush 25, 4, 0, 0, 0, 25, []) := rfl
theorem tX7_n_4 : tbX7_n 4 = (.iload_n 0, 5, 0, 0, 0, 0, []) := rfl
theorem tX7_n_5 : tbX7_n 5 = (.imul, 6, 0, 0, 0, 0, []) := rfl
theorem tX7_n_6 : tbX7_n 6 = (.iadd, 7, 0, 0, 0, 0, []) := rfl
theorem tX7_n_7 : tbX7_n 7 = (.ireturn, 8, 0, 0, 0, 0, []) := rfl
def ltX7_l : List (Nat × pm_E) := [(0, .sipush 166, 3, 0, 0, 0, 166, []), (3, .bipush 13, 5, 0, 0, 0, 13, []), (5, .iload_n 0, 6, 0, 0, 0, 0, []), (6, .imul, 7, 0, 0, 0, 0, []), (7, .iadd, 8, 0, 0, 0, 0, []), (8, .ireturn, 9, 0, 0, 0, 0, [])]
def tbX7_l : Nat → pm_E := pm_lk ltX7_l
theorem okX7_l : ∀ pc, (tbX7_l pc).1 = .nop ∨ pm_ok mX7_l pw_Ms pc (tbX7_l pc) := pm_lk_ok (by decide +kernel)
theorem nr_X7_l : mX7_l.2.2.2 = (some .int) := rfl
theorem tX7_l_0 : tbX7_l 0 = (.sipush 166, 3, 0, 0, 0, 166, []) := rfl
theorem tX7_l_3 : tbX7_l 3 = (.bipush 13, 5, 0, 0, 0, 13, []) := rfl
theorem tX7_l_5 : tbX7_l 5 = (.iload_n 0, 6, 0, 0, 0, 0, []) := rfl
theorem tX7_l_6 : tbX7_l 6 = (.imul, 7, 0, 0, 0, 0, []) := rfl
theorem tX7_l_7 : tbX7_l 7 = (.iadd, 8, 0, 0, 0, 0, []) := rfl
theorem tX7_l_8 : tbX7_l 8 = (.ireturn, 9, 0, 0, 0, 0, []) := rfl
def ltX7_isNode : List (Nat × pm_E) := [(0, .iload_n 1, 1, 0, 0, 0, 0, []), (1, .iconst 0, 2, 0, 0, 0, 0, []), (2, .aload_n 0, 3, 0, 0, 0, 0, []), (3, .getfield 7, 6, 7, 0, 0, 0, [(0, 0)]), (6, .iconst 3, 7, 0, 0, 0, 3, []), (7, .iaload, 8, 0, 0, 0, 0, []), (8, .iconst 1, 9, 0, 0, 0, 1, []), (9, .isub, 10, 0, 0, 0, 0, []), (10, .invokestatic 35, 13, 94, 3, 0, 0, []), (13, .ireturn, 14, 0, 0, 0, 0, [])]
def tbX7_isNode : Nat → pm_E := pm_lk ltX7_isNode
theorem okX7_isNode : ∀ pc, (tbX7_isNode pc).1 = .nop ∨ pm_ok mX7_isNode pw_Ms pc (tbX7_isNode pc) := pm_lk_ok (by decide +kernel)
theorem nr_X7_isNode : mX7_isNode.2.2.2 = (some .boolean) := rfl
theorem tX7_isNode_0 : tbX7_isNode 0 = (.iload_n 1, 1, 0, 0, 0, 0, []) := rfl
theorem tX7_isNode_1 : tbX7_isNode 1 = (.iconst 0, 2, 0, 0, 0, 0, []) := rfl
theorem tX7_isNode_2 : tbX7_isNode 2 = (.aload_n 0, 3, 0, 0, 0, 0, []) := rfl
theorem tX7_isNode_3 : tbX7_isNode 3 = (.getfield 7, 6, 7, 0, 0, 0, [(0, 0)]) := rfl
theorem tX7_isNode_6 : tbX7_isNode 6 = (.iconst 3, 7, 0, 0, 0, 3, []) := rfl
theorem tX7_isNode_7 : tbX7_isNode 7 = (.iaload, 8, 0, 0, 0, 0, []) := rfl
theorem tX7_isNode_8 : tbX7_isNode 8 = (.iconst 1, 9, 0, 0, 0, 1, []) := rfl
theorem tX7_isNode_9 : tbX7_isNode 9 = (.isub, 10, 0, 0, 0, 0, []) := rfl
theorem tX7_isNode_10 : tbX7_isNode 10 = (.invokestatic 35, 13, 94, 3, 0, 0, []) := rfl
theorem tX7_isNode_13 : tbX7_isNode 13 = (.ireturn, 14, 0, 0, 0, 0, []) := rfl
def ltX7_isLine : List (Nat × pm_E) := [(0, .iload_n 1, 1, 0, 0, 0, 0, []), (1, .iconst 0, 2, 0, 0, 0, 0, []), (2, .aload_n 0, 3, 0, 0, 0, 0, []), (3, .getfield 7, 6, 7, 0, 0, 0, [(0, 0)]), (6, .iconst 4, 7, 0, 0, 0, 4, []), (7, .iaload, 8, 0, 0, 0, 0, []), (8, .iconst 1, 9, 0, 0, 0, 1, []), (9, .isub, 10, 0, 0, 0, 0, []), (10, .invokestatic 35, 13, 94, 3, 0, 0, []), (13, .ireturn, 14, 0, 0, 0, 0, [])]
def tbX7_isLine : Nat → pm_E := pm_lk ltX7_isLine
theorem okX7_isLine : ∀ pc, (tbX7_isLine pc).1 = .nop ∨ pm_ok mX7_isLine pw_Ms pc (tbX7_isLine pc) := pm_lk_ok (by decide +kernel)
theorem nr_X7_isLine : mX7_isLine.2.2.2 = (some .boolean) := rfl
theorem tX7_isLine_0 : tbX7_isLine 0 = (.iload_n 1, 1, 0, 0, 0, 0, []) := rfl
theorem tX7_isLine_1 : tbX7_isLine 1 = (.iconst 0, 2, 0, 0, 0, 0, []) := rfl
theorem tX7_isLine_2 : tbX7_isLine 2 = (.aload_n 0, 3, 0, 0, 0, 0, []) := rfl
theorem tX7_isLine_3 : tbX7_isLine 3 = (.getfield 7, 6, 7, 0, 0, 0, [(0, 0)]) := rfl
theorem tX7_isLine_6 : tbX7_isLine 6 = (.iconst 4, 7, 0, 0, 0, 4, []) := rfl
theorem tX7_isLine_7 : tbX7_isLine 7 = (.iaload, 8, 0, 0, 0, 0, []) := rfl
theorem tX7_isLine_8 : tbX7_isLine 8 = (.iconst 1, 9, 0, 0, 0, 1, []) := rfl
theorem tX7_isLine_9 : tbX7_isLine 9 = (.isub, 10, 0, 0, 0, 0, []) := rfl
theorem tX7_isLine_10 : tbX7_isLine 10 = (.invokestatic 35, 13, 94, 3, 0, 0, []) := rfl
theorem tX7_isLine_13 : tbX7_isLine 13 = (.ireturn, 14, 0, 0, 0, 0, []) := rfl
def ltX7_isBit : List (Nat × pm_E) := [(0, .iload_n 0, 1, 0, 0, 0, 0, []), (1, .ifCond .eq 8, 4, 9, 0, 0, 0, []), (4, .iload_n 0, 5, 0, 0, 0, 0, []), (5, .iconst 1, 6, 0, 0, 0, 1, []), (6, .if_icmp .ne 7, 9, 13, 0, 0, 0, []), (9, .iconst 1, 10, 0, 0, 0, 1, []), (10, .goto 4, 13, 14, 0, 0, 0, []), (13, .iconst 0, 14, 0, 0, 0, 0, []), (14, .ireturn, 15, 0, 0, 0, 0, [])]
def tbX7_isBit : Nat → pm_E := pm_lk ltX7_isBit
theorem okX7_isBit : ∀ pc, (tbX7_isBit pc).1 = .nop ∨ pm_ok mX7_isBit pw_Ms pc (tbX7_isBit pc) := pm_lk_ok (by decide +kernel)
theorem nr_X7_isBit : mX7_isBit.2.2.2 = (some .boolean) := rfl
theorem tX7_isBit_0 : tbX7_isBit 0 = (.iload_n 0, 1, 0, 0, 0, 0, []) := rfl
theorem tX7_isBit_1 : tbX7_isBit 1 = (.ifCond .eq 8, 4, 9, 0, 0, 0, []) := rfl
theorem tX7_isBit_4 : tbX7_isBit 4 = (.iload_n 0, 5, 0, 0, 0, 0, []) := rfl
theorem tX7_isBit_5 : tbX7_isBit 5 = (.iconst 1, 6, 0, 0, 0, 1, []) := rfl
theorem tX7_isBit_6 : tbX7_isBit 6 = (.if_icmp .ne 7, 9, 13, 0, 0, 0, []) := rfl
theorem tX7_isBit_9 : tbX7_isBit 9 = (.iconst 1, 10, 0, 0, 0, 1, []) := rfl
theorem tX7_isBit_10 : tbX7_isBit 10 = (.goto 4, 13, 14, 0, 0, 0, []) := rfl
theorem tX7_isBit_13 : tbX7_isBit 13 = (.iconst 0, 14, 0, 0, 0, 0, []) := rfl
theorem tX7_isBit_14 : tbX7_isBit 14 = (.ireturn, 15, 0, 0, 0, 0, []) := rfl
def ltX7_hang : List (Nat × pm_E) := [(0, .aload_n 0, 1, 0, 0, 0, 0, []), (1, .getfield 7, 4, 7, 0, 0, 0, [(0, 0)]), (4, .iload_n 1, 5, 0, 0, 0, 0, []), (5, .invokestatic 39, 8, 98, 1, 0, 0, []), (8, .iconst 4, 9, 0, 0, 0, 4, []), (9, .iadd, 10, 0, 0, 0, 0, []), (10, .aload_n 0, 11, 0, 0, 0, 0, []), (11, .getfield 7, 14, 7, 0, 0, 0, [(0, 0)]), (14, .iload_n 1, 15, 0, 0, 0, 0, []), (15, .invokestatic 39, 18, 98, 1, 0, 0, []), (18, .iconst 3, 19, 0, 0, 0, 3, []), (19, .iadd, 20, 0, 0, 0, 0, []), (20, .iaload, 21, 0, 0, 0, 0, []), (21, .iadd, 22, 0, 0, 0, 0, []), (22, .iload_n 2, 23, 0, 0, 0, 0, []), (23, .iastore, 24, 0, 0, 0, 0, []), (24, .aload_n 0, 25, 0, 0, 0, 0, []), (25, .getfield 7, 28, 7, 0, 0, 0, [(0, 0)]), (28, .iload_n 1, 29, 0, 0, 0, 0, []), (29, .invokestatic 39, 32, 98, 1, 0, 0, []), (32, .iconst 3, 33, 0, 0, 0, 3, []), (33, .iadd, 34, 0, 0, 0, 0, []), (34, .dup2, 35, 0, 0, 0, 0, []), (35, .iaload, 36, 0, 0, 0, 0, []), (36, .iconst 1, 37, 0, 0, 0, 1, []), (37, .iadd, 38, 0, 0, 0, 0, []), (38, .iastore, 39, 0, 0, 0, 0, []), (39, .return_, 40, 0, 0, 0, 0, [])]
def tbX7_hang : Nat → pm_E := pm_lk ltX7_hang
theorem okX7_hang : ∀ pc, (tbX7_hang pc).1 = .nop ∨ pm_ok mX7_hang pw_Ms pc (tbX7_hang pc) := pm_lk_ok (by decide +kernel)
theorem nr_X7_hang : mX7_hang.2.2.2 = none := rfl
theorem tX7_hang_0 : tbX7_hang 0 = (.aload_n 0, 1, 0, 0, 0, 0, []) := rfl
theorem tX7_hang_1 : tbX7_hang 1 = (.getfield 7, 4, 7, 0, 0, 0, [(0, 0)]) := rfl
theorem tX7_hang_4 : tbX7_hang 4 = (.iload_n 1, 5, 0, 0, 0, 0, []) := rfl
theorem tX7_hang_5 : tbX7_hang 5 = (.invokestatic 39, 8, 98, 1, 0, 0, []) := rfl
theorem tX7_hang_8 : tbX7_hang 8 = (.iconst 4, 9, 0, 0, 0, 4, []) := rfl
theorem tX7_hang_9 : tbX7_hang 9 = (.iadd, 10, 0, 0, 0, 0, []) := rfl
theorem tX7_hang_10 : tbX7_hang 10 = (.aload_n 0, 11, 0, 0, 0, 0, []) := rfl
theorem tX7_hang_11 : tbX7_hang 11 = (.getfield 7, 14, 7, 0, 0, 0, [(0, 0)]) := rfl
theorem tX7_hang_14 : tbX7_hang 14 = (.iload_n 1, 15, 0, 0, 0, 0, []) := rfl
theorem tX7_hang_15 : tbX7_hang 15 = (.invokestatic 39, 18, 98, 1, 0, 0, []) := rfl
theorem tX7_hang_18 : tbX7_hang 18 = (.iconst 3, 19, 0, 0, 0, 3, []) := rfl
theorem tX7_hang_19 : tbX7_hang 19 = (.iadd, 20, 0, 0, 0, 0, []) := rfl
theorem tX7_hang_20 : tbX7_hang 20 = (.iaload, 21, 0, 0, 0, 0, []) := rfl
theorem tX7_hang_21 : tbX7_hang 21 = (.iadd, 22, 0, 0, 0, 0, []) := rfl
theorem tX7_hang_22 : tbX7_hang 22 = (.iload_n 2, 23, 0, 0, 0, 0, []) := rfl
theorem tX7_hang_23 : tbX7_hang 23 = (.iastore, 24, 0, 0, 0, 0, []) := rfl
theorem tX7_hang_24 : tbX7_hang 24 = (.aload_n 0, 25, 0, 0, 0, 0, []) := rfl
theorem tX7_hang_25 : tbX7_hang 25 = (.getfield 7, 28, 7, 0, 0, 0, [(0, 0)]) := rfl
theorem tX7_hang_28 : tbX7_hang 28 = (.iload_n 1, 29, 0, 0, 0, 0, []) := rfl
theorem tX7_hang_29 : tbX7_hang 29 = (.invokestatic 39, 32, 98, 1, 0, 0, []) := rfl
theorem tX7_hang_32 : tbX7_hang 32 = (.iconst 3, 33, 0, 0, 0, 3, []) := rfl
theorem tX7_hang_33 : tbX7_hang 33 = (.iadd, 34, 0, 0, 0, 0, []) := rfl
theorem tX7_hang_34 : tbX7_hang 34 = (.dup2, 35, 0, 0, 0, 0, []) := rfl
theorem tX7_hang_35 : tbX7_hang 35 = (.iaload, 36, 0, 0, 0, 0, []) := rfl
theorem tX7_hang_36 : tbX7_hang 36 = (.iconst 1, 37, 0, 0, 0, 1, []) := rfl
theorem tX7_hang_37 : tbX7_hang 37 = (.iadd, 38, 0, 0, 0, 0, []) := rfl
theorem tX7_hang_38 : tbX7_hang 38 = (.iastore, 39, 0, 0, 0, 0, []) := rfl
theorem tX7_hang_39 : tbX7_hang 39 = (.return_, 40, 0, 0, 0, 0, []) := rfl
def ltX7_node : List (Nat × pm_E) := [(0, .aload_n 0, 1, 0, 0, 0, 0, []), (1, .iload_n 1, 2, 0, 0, 0, 0, []), (2, .invokevirtual 43, 5, 100, 1, 7, 0, []), (5, .ifCond .eq 10, 8, 15, 0, 0, 0, []), (8, .iload_n 2, 9, 0, 0, 0, 0, []), (9, .invokestatic 47, 12, 102, 1, 0, 0, []), (12, .ifCond .ne 5, 15, 17, 0, 0, 0, []), (15, .iconst (-1), 16, 0, 0, 0, -1, []), (16, .ireturn, 17, 0, 0, 0, 0, []), (17, .aload_n 0, 18, 0, 0, 0, 0, []), (18, .getfield 7, 21, 7, 0, 0, 0, [(0, 0)]), (21, .iconst 3, 22, 0, 0, 0, 3, []), (22, .iaload, 23, 0, 0, 0, 0, []), (23, .bipush 6, 25, 0, 0, 0, 6, []), (25, .if_icmp .ne 6, 28, 31, 0, 0, 0, []), (28, .bipush (-3), 30, 0, 0, 0, -3, []), (30, .ireturn, 31, 0, 0, 0, 0, []), (31, .aload_n 0, 32, 0, 0, 0, 0, []), (32, .invokevirtual 50, 35, 95, 0, 7, 0, []), (35, .aload_n 0, 36, 0, 0, 0, 0, []), (36, .getfield 7, 39, 7, 0, 0, 0, [(0, 0)]), (39, .iconst 3, 40, 0, 0, 0, 3, []), (40, .iaload, 41, 0, 0, 0, 0, []), (41, .istore_n 3, 42, 0, 0, 0, 0, []), (42, .aload_n 0, 43, 0, 0, 0, 0, []), (43, .getfield 7, 46, 7, 0, 0, 0, [(0, 0)]), (46, .iload_n 3, 47, 0, 0, 0, 0, []), (47, .invokestatic 39, 50, 98, 1, 0, 0, []), (50, .iconst 0, 51, 0, 0, 0, 0, []), (51, .iadd, 52, 0, 0, 0, 0, []), (52, .iload_n 1, 53, 0, 0, 0, 0, []), (53, .iastore, 54, 0, 0, 0, 0, []), (54, .aload_n 0, 55, 0, 0, 0, 0, []), (55, .getfield 7, 58, 7, 0, 0, 0, [(0, 0)]), (58, .iload_n 3, 59, 0, 0, 0, 0, []), (59, .invokestatic 39, 62, 98, 1, 0, 0, []), (62, .iconst 1, 63, 0, 0, 0, 1, []), (63, .iadd, 64, 0, 0, 0, 0, []), (64, .iload_n 2, 65, 0, 0, 0, 0, []), (65, .iastore, 66, 0, 0, 0, 0, []), (66, .aload_n 0, 67, 0, 0, 0, 0, []), (67, .getfield 7, 70, 7, 0, 0, 0, [(0, 0)]), (70, .iconst 3, 71, 0, 0, 0, 3, []), (71, .dup2, 72, 0, 0, 0, 0, []), (72, .iaload, 73, 0, 0, 0, 0, []), (73, .iconst 1, 74, 0, 0, 0, 1, []), (74, .iadd, 75, 0, 0, 0, 0, []), (75, .iastore, 76, 0, 0, 0, 0, []), (76, .aload_n 0, 77, 0, 0, 0, 0, []), (77, .iload_n 1, 78, 0, 0, 0, 0, []), (78, .bipush 100, 80, 0, 0, 0, 100, []), (80, .iload_n 3, 81, 0, 0, 0, 0, []), (81, .iadd, 82, 0, 0, 0, 0, []), (82, .invokevirtual 53, 85, 103, 2, 7, 0, []), (85, .iload_n 3, 86, 0, 0, 0, 0, []), (86, .ireturn, 87, 0, 0, 0, 0, [])]
def tbX7_node : Nat → pm_E := pm_lk ltX7_node
theorem okX7_node : ∀ pc, (tbX7_node pc).1 = .nop ∨ pm_ok mX7_node pw_Ms pc (tbX7_node pc) := pm_lk_ok (by decide +kernel)
theorem nr_X7_node : mX7_node.2.2.2 = (some .int) := rfl
theorem tX7_node_0 : tbX7_node 0 = (.aload_n 0, 1, 0, 0, 0, 0, []) := rfl
theorem tX7_node_1 : tbX7_node 1 = (.iload_n 1, 2, 0, 0, 0, 0, []) := rfl
theorem tX7_node_2 : tbX7_node 2 = (.invokevirtual 43, 5, 100, 1, 7, 0, []) := rfl
theorem tX7_node_5 : tbX7_node 5 = (.ifCond .eq 10, 8, 15, 0, 0, 0, []) := rfl
theorem tX7_node_8 : tbX7_node 8 = (.iload_n 2, 9, 0, 0, 0, 0, []) := rfl
theorem tX7_node_9 : tbX7_node 9 = (.invokestatic 47, 12, 102, 1, 0, 0, []) := rfl
theorem tX7_node_12 : tbX7_node 12 = (.ifCond .ne 5, 15, 17, 0, 0, 0, []) := rfl
theorem tX7_node_15 : tbX7_node 15 = (.iconst (-1), 16, 0, 0, 0, -1, []) := rfl
theorem tX7_node_16 : tbX7_node 16 = (.ireturn, 17, 0, 0, 0, 0, []) := rfl
theorem tX7_node_17 : tbX7_node 17 = (.aload_n 0, 18, 0, 0, 0, 0, []) := rfl
theorem tX7_node_18 : tbX7_node 18 = (.getfield 7, 21, 7, 0, 0, 0, [(0, 0)]) := rfl
theorem tX7_node_21 : tbX7_node 21 = (.iconst 3, 22, 0, 0, 0, 3, []) := rfl
theorem tX7_node_22 : tbX7_node 22 = (.iaload, 23, 0, 0, 0, 0, []) := rfl
theorem tX7_node_23 : tbX7_node 23 = (.bipush 6, 25, 0, 0, 0, 6, []) := rfl
theorem tX7_node_25 : tbX7_node 25 = (.if_icmp .ne 6, 28, 31, 0, 0, 0, []) := rfl
theorem tX7_node_28 : tbX7_node 28 = (.bipush (-3), 30, 0, 0, 0, -3, []) := rfl
theorem tX7_node_30 : tbX7_node 30 = (.ireturn, 31, 0, 0, 0, 0, []) := rfl
theorem tX7_node_31 : tbX7_node 31 = (.aload_n 0, 32, 0, 0, 0, 0, []) := rfl
theorem tX7_node_32 : tbX7_node 32 = (.invokevirtual 50, 35, 95, 0, 7, 0, []) := rfl
theorem tX7_node_35 : tbX7_node 35 = (.aload_n 0, 36, 0, 0, 0, 0, []) := rfl
theorem tX7_node_36 : tbX7_node 36 = (.getfield 7, 39, 7, 0, 0, 0, [(0, 0)]) := rfl
theorem tX7_node_39 : tbX7_node 39 = (.iconst 3, 40, 0, 0, 0, 3, []) := rfl
theorem tX7_node_40 : tbX7_node 40 = (.iaload, 41, 0, 0, 0, 0, []) := rfl
theorem tX7_node_41 : tbX7_node 41 = (.istore_n 3, 42, 0, 0, 0, 0, []) := rfl
theorem tX7_node_42 : tbX7_node 42 = (.aload_n 0, 43, 0, 0, 0, 0, []) := rfl
theorem tX7_node_43 : tbX7_node 43 = (.getfield 7, 46, 7, 0, 0, 0, [(0, 0)]) := rfl
theorem tX7_node_46 : tbX7_node 46 = (.iload_n 3, 47, 0, 0, 0, 0, []) := rfl
theorem tX7_node_47 : tbX7_node 47 = (.invokestatic 39, 50, 98, 1, 0, 0, []) := rfl
theorem tX7_node_50 : tbX7_node 50 = (.iconst 0, 51, 0, 0, 0, 0, []) := rfl
theorem tX7_node_51 : tbX7_node 51 = (.iadd, 52, 0, 0, 0, 0, []) := rfl
theorem tX7_node_52 : tbX7_node 52 = (.iload_n 1, 53, 0, 0, 0, 0, []) := rfl
theorem tX7_node_53 : tbX7_node 53 = (.iastore, 54, 0, 0, 0, 0, []) := rfl
theorem tX7_node_54 : tbX7_node 54 = (.aload_n 0, 55, 0, 0, 0, 0, []) := rfl
theorem tX7_node_55 : tbX7_node 55 = (.getfield 7, 58, 7, 0, 0, 0, [(0, 0)]) := rfl
theorem tX7_node_58 : tbX7_node 58 = (.iload_n 3, 59, 0, 0, 0, 0, []) := rfl
theorem tX7_node_59 : tbX7_node 59 = (.invokestatic 39, 62, 98, 1, 0, 0, []) := rfl
theorem tX7_node_62 : tbX7_node 62 = (.iconst 1, 63, 0, 0, 0, 1, []) := rfl
theorem tX7_node_63 : tbX7_node 63 = (.iadd, 64, 0, 0, 0, 0, []) := rfl
theorem tX7_node_64 : tbX7_node 64 = (.iload_n 2, 65, 0, 0, 0, 0, []) := rfl
theorem tX7_node_65 : tbX7_node 65 = (.iastore, 66, 0, 0, 0, 0, []) := rfl
theorem tX7_node_66 : tbX7_node 66 = (.aload_n 0, 67, 0, 0, 0, 0, []) := rfl
theorem tX7_node_67 : tbX7_node 67 = (.getfield 7, 70, 7, 0, 0, 0, [(0, 0)]) := rfl
theorem tX7_node_70 : tbX7_node 70 = (.iconst 3, 71, 0, 0, 0, 3, []) := rfl
theorem tX7_node_71 : tbX7_node 71 = (.dup2, 72, 0, 0, 0, 0, []) := rfl
theorem tX7_node_72 : tbX7_node 72 = (.iaload, 73, 0, 0, 0, 0, []) := rfl
theorem tX7_node_73 : tbX7_node 73 = (.iconst 1, 74, 0, 0, 0, 1, []) := rfl
theorem tX7_node_74 : tbX7_node 74 = (.iadd, 75, 0, 0, 0, 0, []) := rfl
theorem tX7_node_75 : tbX7_node 75 = (.iastore, 76, 0, 0, 0, 0, []) := rfl
theorem tX7_node_76 : tbX7_node 76 = (.aload_n 0, 77, 0, 0, 0, 0, []) := rfl
theorem tX7_node_77 : tbX7_node 77 = (.iload_n 1, 78, 0, 0, 0, 0, []) := rfl
theorem tX7_node_78 : tbX7_node 78 = (.bipush 100, 80, 0, 0, 0, 100, []) := rfl
theorem tX7_node_80 : tbX7_node 80 = (.iload_n 3, 81, 0, 0, 0, 0, []) := rfl
theorem tX7_node_81 : tbX7_node 81 = (.iadd, 82, 0, 0, 0, 0, []) := rfl
theorem tX7_node_82 : tbX7_node 82 = (.invokevirtual 53, 85, 103, 2, 7, 0, []) := rfl
theorem tX7_node_85 : tbX7_node 85 = (.iload_n 3, 86, 0, 0, 0, 0, []) := rfl
theorem tX7_node_86 : tbX7_node 86 = (.ireturn, 87, 0, 0, 0, 0, []) := rfl
def ltX7_line : List (Nat × pm_E) := [(0, .aload_n 0, 1, 0, 0, 0, 0, []), (1, .iload_n 1, 2, 0, 0, 0, 0, []), (2, .invokevirtual 43, 5, 100, 1, 7, 0, []), (5, .ifCond .eq 20, 8, 25, 0, 0, 0, []), (8, .iload_n 2, 9, 0, 0, 0, 0, []), (9, .iconst 0, 10, 0, 0, 0, 0, []), (10, .bipush 7, 12, 0, 0, 0, 7, []), (12, .invokestatic 35, 15, 94, 3, 0, 0, []), (15, .ifCond .eq 10, 18, 25, 0, 0, 0, []), (18, .iload_n 3, 19, 0, 0, 0, 0, []), (19, .invokestatic 47, 22, 102, 1, 0, 0, []), (22, .ifCond .ne 5, 25, 27, 0, 0, 0, []), (25, .iconst (-1), 26, 0, 0, 0, -1, []), (26, .ireturn, 27, 0, 0, 0, 0, []), (27, .aload_n 0, 28, 0, 0, 0, 0, []), (28, .getfield 7, 31, 7, 0, 0, 0, [(0, 0)]), (31, .iconst 4, 32, 0, 0, 0, 4, []), (32, .iaload, 33, 0, 0, 0, 0, []), (33, .bipush 16, 35, 0, 0, 0, 16, []), (35, .if_icmp .ne 6, 38, 41, 0, 0, 0, []), (38, .bipush (-3), 40, 0, 0, 0, -3, []), (40, .ireturn, 41, 0, 0, 0, 0, []), (41, .aload_n 0, 42, 0, 0, 0, 0, []), (42, .invokevirtual 50, 45, 95, 0, 7, 0, []), (45, .aload_n 0, 46, 0, 0, 0, 0, []), (46, .getfield 7, 49, 7, 0, 0, 0, [(0, 0)]), (49, .iconst 4, 50, 0, 0, 0, 4, []), (50, .iaload, 51, 0, 0, 0, 0, []), (51, .istore 4, 53, 0, 0, 0, 0, []), (53, .aload_n 0, 54, 0, 0, 0, 0, []), (54, .getfield 7, 57, 7, 0, 0, 0, [(0, 0)]), (57, .iload 4, 59, 0, 0, 0, 0, []), (59, .invokestatic 57, 62, 99, 1, 0, 0, []), (62, .iconst 0, 63, 0, 0, 0, 0, []), (63, .iadd, 64, 0, 0, 0, 0, []), (64, .iload_n 1, 65, 0, 0, 0, 0, []), (65, .iastore, 66, 0, 0, 0, 0, []), (66, .aload_n 0, 67, 0, 0, 0, 0, []), (67, .getfield 7, 70, 7, 0, 0, 0, [(0, 0)]), (70, .iload 4, 72, 0, 0, 0, 0, []), (72, .invokestatic 57, 75, 99, 1, 0, 0, []), (75, .iconst 1, 76, 0, 0, 0, 1, []), (76, .iadd, 77, 0, 0, 0, 0, []), (77, .iload_n 2, 78, 0, 0, 0, 0, []), (78, .iastore, 79, 0, 0, 0, 0, []), (79, .aload_n 0, 80, 0, 0, 0, 0, []), (80, .getfield 7, 83, 7, 0, 0, 0, [(0, 0)]), (83, .iload 4, 85, 0, 0, 0, 0, []), (85, .invokestatic 57, 88, 99, 1, 0, 0, []), (88, .iconst 2, 89, 0, 0, 0, 2, []), (89, .iadd, 90, 0, 0, 0, 0, []), (90, .iload_n 3, 91, 0, 0, 0, 0, []), (91, .iastore, 92, 0, 0, 0, 0, []), (92, .aload_n 0, 93, 0, 0, 0, 0, []), (93, .getfield 7, 96, 7, 0, 0, 0, [(0, 0)]), (96, .iconst 4, 97, 0, 0, 0, 4, []), (97, .dup2, 98, 0, 0, 0, 0, []), (98, .iaload, 99, 0, 0, 0, 0, []), (99, .iconst 1, 100, 0, 0, 0, 1, []), (100, .iadd, 101, 0, 0, 0, 0, []), (101, .iastore, 102, 0, 0, 0, 0, []), (102, .aload_n 0, 103, 0, 0, 0, 0, []), (103, .iload_n 1, 104, 0, 0, 0, 0, []), (104, .iload 4, 106, 0, 0, 0, 0, []), (106, .invokevirtual 53, 109, 103, 2, 7, 0, []), (109, .iload 4, 111, 0, 0, 0, 0, []), (111, .ireturn, 112, 0, 0, 0, 0, [])]
def tbX7_line : Nat → pm_E := pm_lk ltX7_line
theorem okX7_line : ∀ pc, (tbX7_line pc).1 = .nop ∨ pm_ok mX7_line pw_Ms pc (tbX7_line pc) := pm_lk_ok (by decide +kernel)
theorem nr_X7_line : mX7_line.2.2.2 = (some .int) := rfl
theorem tX7_line_0 : tbX7_line 0 = (.aload_n 0, 1, 0, 0, 0, 0, []) := rfl
theorem tX7_line_1 : tbX7_line 1 = (.iload_n 1, 2, 0, 0, 0, 0, []) := rfl
theorem tX7_line_2 : tbX7_line 2 = (.invokevirtual 43, 5, 100, 1, 7, 0, []) := rfl
theorem tX7_line_5 : tbX7_line 5 = (.ifCond .eq 20, 8, 25, 0, 0, 0, []) := rfl
theorem tX7_line_8 : tbX7_line 8 = (.iload_n 2, 9, 0, 0, 0, 0, []) := rfl
theorem tX7_line_9 : tbX7_line 9 = (.iconst 0, 10, 0, 0, 0, 0, []) := rfl
theorem tX7_line_10 : tbX7_line 10 = (.bipush 7, 12, 0, 0, 0, 7, []) := rfl
theorem tX7_line_12 : tbX7_line 12 = (.invokestatic 35, 15, 94, 3, 0, 0, []) := rfl
theorem tX7_line_15 : tbX7_line 15 = (.ifCond .eq 10, 18, 25, 0, 0, 0, []) := rfl
theorem tX7_line_18 : tbX7_line 18 = (.iload_n 3, 19, 0, 0, 0, 0, []) := rfl
theorem tX7_line_19 : tbX7_line 19 = (.invokestatic 47, 22, 102, 1, 0, 0, []) := rfl
theorem tX7_line_22 : tbX7_line 22 = (.ifCond .ne 5, 25, 27, 0, 0, 0, []) := rfl
theorem tX7_line_25 : tbX7_line 25 = (.iconst (-1), 26, 0, 0, 0, -1, []) := rfl
theorem tX7_line_26 : tbX7_line 26 = (.ireturn, 27, 0, 0, 0, 0, []) := rfl
theorem tX7_line_27 : tbX7_line 27 = (.aload_n 0, 28, 0, 0, 0, 0, []) := rfl
theorem tX7_line_28 : tbX7_line 28 = (.getfield 7, 31, 7, 0, 0, 0, [(0, 0)]) := rfl
theorem tX7_line_31 : tbX7_line 31 = (.iconst 4, 32, 0, 0, 0, 4, []) := rfl
theorem tX7_line_32 : tbX7_line 32 = (.iaload, 33, 0, 0, 0, 0, []) := rfl
theorem tX7_line_33 : tbX7_line 33 = (.bipush 16, 35, 0, 0, 0, 16, []) := rfl
theorem tX7_line_35 : tbX7_line 35 = (.if_icmp .ne 6, 38, 41, 0, 0, 0, []) := rfl
theorem tX7_line_38 : tbX7_line 38 = (.bipush (-3), 40, 0, 0, 0, -3, []) := rfl
theorem tX7_line_40 : tbX7_line 40 = (.ireturn, 41, 0, 0, 0, 0, []) := rfl
theorem tX7_line_41 : tbX7_line 41 = (.aload_n 0, 42, 0, 0, 0, 0, []) := rfl
theorem tX7_line_42 : tbX7_line 42 = (.invokevirtual 50, 45, 95, 0, 7, 0, []) := rfl
theorem tX7_line_45 : tbX7_line 45 = (.aload_n 0, 46, 0, 0, 0, 0, []) := rfl
theorem tX7_line_46 : tbX7_line 46 = (.getfield 7, 49, 7, 0, 0, 0, [(0, 0)]) := rfl
theorem tX7_line_49 : tbX7_line 49 = (.iconst 4, 50, 0, 0, 0, 4, []) := rfl
theorem tX7_line_50 : tbX7_line 50 = (.iaload, 51, 0, 0, 0, 0, []) := rfl
theorem tX7_line_51 : tbX7_line 51 = (.istore 4, 53, 0, 0, 0, 0, []) := rfl
theorem tX7_line_53 : tbX7_line 53 = (.aload_n 0, 54, 0, 0, 0, 0, []) := rfl
theorem tX7_line_54 : tbX7_line 54 = (.getfield 7, 57, 7, 0, 0, 0, [(0, 0)]) := rfl
theorem tX7_line_57 : tbX7_line 57 = (.iload 4, 59, 0, 0, 0, 0, []) := rfl
theorem tX7_line_59 : tbX7_line 59 = (.invokestatic 57, 62, 99, 1, 0, 0, []) := rfl
theorem tX7_line_62 : tbX7_line 62 = (.iconst 0, 63, 0, 0, 0, 0, []) := rfl
theorem tX7_line_63 : tbX7_line 63 = (.iadd, 64, 0, 0, 0, 0, []) := rfl
theorem tX7_line_64 : tbX7_line 64 = (.iload_n 1, 65, 0, 0, 0, 0, []) := rfl
theorem tX7_line_65 : tbX7_line 65 = (.iastore, 66, 0, 0, 0, 0, []) := rfl
theorem tX7_line_66 : tbX7_line 66 = (.aload_n 0, 67, 0, 0, 0, 0, []) := rfl
theorem tX7_line_67 : tbX7_line 67 = (.getfield 7, 70, 7, 0, 0, 0, [(0, 0)]) := rfl
theorem tX7_line_70 : tbX7_line 70 = (.iload 4, 72, 0, 0, 0, 0, []) := rfl
theorem tX7_line_72 : tbX7_line 72 = (.invokestatic 57, 75, 99, 1, 0, 0, []) := rfl
theorem tX7_line_75 : tbX7_line 75 = (.iconst 1, 76, 0, 0, 0, 1, []) := rfl
theorem tX7_line_76 : tbX7_line 76 = (.iadd, 77, 0, 0, 0, 0, []) := rfl
theorem tX7_line_77 : tbX7_line 77 = (.iload_n 2, 78, 0, 0, 0, 0, []) := rfl
theorem tX7_line_78 : tbX7_line 78 = (.iastore, 79, 0, 0, 0, 0, []) := rfl
theorem tX7_line_79 : tbX7_line 79 = (.aload_n 0, 80, 0, 0, 0, 0, []) := rfl
theorem tX7_line_80 : tbX7_line 80 = (.getfield 7, 83, 7, 0, 0, 0, [(0, 0)]) := rfl
theorem tX7_line_83 : tbX7_line 83 = (.iload 4, 85, 0, 0, 0, 0, []) := rfl
theorem tX7_line_85 : tbX7_line 85 = (.invokestatic 57, 88, 99, 1, 0, 0, []) := rfl
theorem tX7_line_88 : tbX7_line 88 = (.iconst 2, 89, 0, 0, 0, 2, []) := rfl
theorem tX7_line_89 : tbX7_line 89 = (.iadd, 90, 0, 0, 0, 0, []) := rfl
theorem tX7_line_90 : tbX7_line 90 = (.iload_n 3, 91, 0, 0, 0, 0, []) := rfl
theorem tX7_line_91 : tbX7_line 91 = (.iastore, 92, 0, 0, 0, 0, []) := rfl
theorem tX7_line_92 : tbX7_line 92 = (.aload_n 0, 93, 0, 0, 0, 0, []) := rfl
theorem tX7_line_93 : tbX7_line 93 = (.getfield 7, 96, 7, 0, 0, 0, [(0, 0)]) := rfl
theorem tX7_line_96 : tbX7_line 96 = (.iconst 4, 97, 0, 0, 0, 4, []) := rfl
theorem tX7_line_97 : tbX7_line 97 = (.dup2, 98, 0, 0, 0, 0, []) := rfl
theorem tX7_line_98 : tbX7_line 98 = (.iaload, 99, 0, 0, 0, 0, []) := rfl
theorem tX7_line_99 : tbX7_line 99 = (.iconst 1, 100, 0, 0, 0, 1, []) := rfl
theorem tX7_line_100 : tbX7_line 100 = (.iadd, 101, 0, 0, 0, 0, []) := rfl
theorem tX7_line_101 : tbX7_line 101 = (.iastore, 102, 0, 0, 0, 0, []) := rfl
theorem tX7_line_102 : tbX7_line 102 = (.aload_n 0, 103, 0, 0, 0, 0, []) := rfl
theorem tX7_line_103 : tbX7_line 103 = (.iload_n 1, 104, 0, 0, 0, 0, []) := rfl
theorem tX7_line_104 : tbX7_line 104 = (.iload 4, 106, 0, 0, 0, 0, []) := rfl
theorem tX7_line_106 : tbX7_line 106 = (.invokevirtual 53, 109, 103, 2, 7, 0, []) := rfl
theorem tX7_line_109 : tbX7_line 109 = (.iload 4, 111, 0, 0, 0, 0, []) := rfl
theorem tX7_line_111 : tbX7_line 111 = (.ireturn, 112, 0, 0, 0, 0, []) := rfl
def ltX7_isOnWay : List (Nat × pm_E) := [(0, .aload_n 0, 1, 0, 0, 0, 0, []), (1, .getfield 7, 4, 7, 0, 0, 0, [(0, 0)]), (4, .iload_n 2, 5, 0, 0, 0, 0, []), (5, .invokestatic 57, 8, 99, 1, 0, 0, []), (8, .iconst 0, 9, 0, 0, 0, 0, []), (9, .iadd, 10, 0, 0, 0, 0, []), (10, .iaload, 11, 0, 0, 0, 0, []), (11, .istore_n 3, 12, 0, 0, 0, 0, []), (12, .iload_n 3, 13, 0, 0, 0, 0, []), (13, .ifCond .lt 23, 16, 36, 0, 0, 0, []), (16, .iload_n 3, 17, 0, 0, 0, 0, []), (17, .iload_n 1, 18, 0, 0, 0, 0, []), (18, .if_icmp .eq 18, 21, 36, 0, 0, 0, []), (21, .aload_n 0, 22, 0, 0, 0, 0, []), (22, .getfield 7, 25, 7, 0, 0, 0, [(0, 0)]), (25, .iload_n 3, 26, 0, 0, 0, 0, []), (26, .invokestatic 39, 29, 98, 1, 0, 0, []), (29, .iconst 0, 30, 0, 0, 0, 0, []), (30, .iadd, 31, 0, 0, 0, 0, []), (31, .iaload, 32, 0, 0, 0, 0, []), (32, .istore_n 3, 33, 0, 0, 0, 0, []), (33, .goto (-21), 36, 12, 0, 0, 0, []), (36, .iload_n 3, 37, 0, 0, 0, 0, []), (37, .iload_n 1, 38, 0, 0, 0, 0, []), (38, .if_icmp .ne 7, 41, 45, 0, 0, 0, []), (41, .iconst 1, 42, 0, 0, 0, 1, []), (42, .goto 4, 45, 46, 0, 0, 0, []), (45, .iconst 0, 46, 0, 0, 0, 0, []), (46, .ireturn, 47, 0, 0, 0, 0, [])]
def tbX7_isOnWay : Nat → pm_E := pm_lk ltX7_isOnWay
theorem okX7_isOnWay : ∀ pc, (tbX7_isOnWay pc).1 = .nop ∨ pm_ok mX7_isOnWay pw_Ms pc (tbX7_isOnWay pc) := pm_lk_ok (by decide +kernel)
theorem nr_X7_isOnWay : mX7_isOnWay.2.2.2 = (some .boolean) := rfl
theorem tX7_isOnWay_0 : tbX7_isOnWay 0 = (.aload_n 0, 1, 0, 0, 0, 0, []) := rfl
theorem tX7_isOnWay_1 : tbX7_isOnWay 1 = (.getfield 7, 4, 7, 0, 0, 0, [(0, 0)]) := rfl
theorem tX7_isOnWay_4 : tbX7_isOnWay 4 = (.iload_n 2, 5, 0, 0, 0, 0, []) := rfl
theorem tX7_isOnWay_5 : tbX7_isOnWay 5 = (.invokestatic 57, 8, 99, 1, 0, 0, []) := rfl
theorem tX7_isOnWay_8 : tbX7_isOnWay 8 = (.iconst 0, 9, 0, 0, 0, 0, []) := rfl
theorem tX7_isOnWay_9 : tbX7_isOnWay 9 = (.iadd, 10, 0, 0, 0, 0, []) := rfl
theorem tX7_isOnWay_10 : tbX7_isOnWay 10 = (.iaload, 11, 0, 0, 0, 0, []) := rfl
theorem tX7_isOnWay_11 : tbX7_isOnWay 11 = (.istore_n 3, 12, 0, 0, 0, 0, []) := rfl
theorem tX7_isOnWay_12 : tbX7_isOnWay 12 = (.iload_n 3, 13, 0, 0, 0, 0, []) := rfl
theorem tX7_isOnWay_13 : tbX7_isOnWay 13 = (.ifCond .lt 23, 16, 36, 0, 0, 0, []) := rfl
theorem tX7_isOnWay_16 : tbX7_isOnWay 16 = (.iload_n 3, 17, 0, 0, 0, 0, []) := rfl
theorem tX7_isOnWay_17 : tbX7_isOnWay 17 = (.iload_n 1, 18, 0, 0, 0, 0, []) := rfl
theorem tX7_isOnWay_18 : tbX7_isOnWay 18 = (.if_icmp .eq 18, 21, 36, 0, 0, 0, []) := rfl
theorem tX7_isOnWay_21 : tbX7_isOnWay 21 = (.aload_n 0, 22, 0, 0, 0, 0, []) := rfl
theorem tX7_isOnWay_22 : tbX7_isOnWay 22 = (.getfield 7, 25, 7, 0, 0, 0, [(0, 0)]) := rfl
theorem tX7_isOnWay_25 : tbX7_isOnWay 25 = (.iload_n 3, 26, 0, 0, 0, 0, []) := rfl
theorem tX7_isOnWay_26 : tbX7_isOnWay 26 = (.invokestatic 39, 29, 98, 1, 0, 0, []) := rfl
theorem tX7_isOnWay_29 : tbX7_isOnWay 29 = (.iconst 0, 30, 0, 0, 0, 0, []) := rfl
theorem tX7_isOnWay_30 : tbX7_isOnWay 30 = (.iadd, 31, 0, 0, 0, 0, []) := rfl
theorem tX7_isOnWay_31 : tbX7_isOnWay 31 = (.iaload, 32, 0, 0, 0, 0, []) := rfl
theorem tX7_isOnWay_32 : tbX7_isOnWay 32 = (.istore_n 3, 33, 0, 0, 0, 0, []) := rfl
theorem tX7_isOnWay_33 : tbX7_isOnWay 33 = (.goto (-21), 36, 12, 0, 0, 0, []) := rfl
theorem tX7_isOnWay_36 : tbX7_isOnWay 36 = (.iload_n 3, 37, 0, 0, 0, 0, []) := rfl
theorem tX7_isOnWay_37 : tbX7_isOnWay 37 = (.iload_n 1, 38, 0, 0, 0, 0, []) := rfl
theorem tX7_isOnWay_38 : tbX7_isOnWay 38 = (.if_icmp .ne 7, 41, 45, 0, 0, 0, []) := rfl
theorem tX7_isOnWay_41 : tbX7_isOnWay 41 = (.iconst 1, 42, 0, 0, 0, 1, []) := rfl
theorem tX7_isOnWay_42 : tbX7_isOnWay 42 = (.goto 4, 45, 46, 0, 0, 0, []) := rfl
theorem tX7_isOnWay_45 : tbX7_isOnWay 45 = (.iconst 0, 46, 0, 0, 0, 0, []) := rfl
theorem tX7_isOnWay_46 : tbX7_isOnWay 46 = (.ireturn, 47, 0, 0, 0, 0, []) := rfl
def ltX7_linesBy : List (Nat × pm_E) := [(0, .iconst 0, 1, 0, 0, 0, 0, []), (1, .istore_n 2, 2, 0, 0, 0, 0, []), (2, .iconst 0, 3, 0, 0, 0, 0, []), (3, .istore_n 3, 4, 0, 0, 0, 0, []), (4, .iload_n 3, 5, 0, 0, 0, 0, []), (5, .aload_n 0, 6, 0, 0, 0, 0, []), (6, .getfield 7, 9, 7, 0, 0, 0, [(0, 0)]), (9, .iconst 4, 10, 0, 0, 0, 4, []), (10, .iaload, 11, 0, 0, 0, 0, []), (11, .if_icmp .ge 28, 14, 39, 0, 0, 0, []), (14, .iload_n 2, 15, 0, 0, 0, 0, []), (15, .aload_n 0, 16, 0, 0, 0, 0, []), (16, .iload_n 1, 17, 0, 0, 0, 0, []), (17, .iload_n 3, 18, 0, 0, 0, 0, []), (18, .invokevirtual 60, 21, 106, 2, 7, 0, []), (21, .ifCond .eq 9, 24, 30, 0, 0, 0, []), (24, .iconst 1, 25, 0, 0, 0, 1, []), (25, .iload_n 3, 26, 0, 0, 0, 0, []), (26, .ishl, 27, 0, 0, 0, 0, []), (27, .goto 4, 30, 31, 0, 0, 0, []), (30, .iconst 0, 31, 0, 0, 0, 0, []), (31, .ior, 32, 0, 0, 0, 0, []), (32, .istore_n 2, 33, 0, 0, 0, 0, []), (33, .iinc 3 1, 36, 0, 0, 0, 1, []), (36, .goto (-32), 39, 4, 0, 0, 0, []), (39, .iload_n 2, 40, 0, 0, 0, 0, []), (40, .ireturn, 41, 0, 0, 0, 0, [])]
def tbX7_linesBy : Nat → pm_E := pm_lk ltX7_linesBy
theorem okX7_linesBy : ∀ pc, (tbX7_linesBy pc).1 = .nop ∨ pm_ok mX7_linesBy pw_Ms pc (tbX7_linesBy pc) := pm_lk_ok (by decide +kernel)
theorem nr_X7_linesBy : mX7_linesBy.2.2.2 = (some .int) := rfl
theorem tX7_linesBy_0 : tbX7_linesBy 0 = (.iconst 0, 1, 0, 0, 0, 0, []) := rfl
theorem tX7_linesBy_1 : tbX7_linesBy 1 = (.istore_n 2, 2, 0, 0, 0, 0, []) := rfl
theorem tX7_linesBy_2 : tbX7_linesBy 2 = (.iconst 0, 3, 0, 0, 0, 0, []) := rfl
theorem tX7_linesBy_3 : tbX7_linesBy 3 = (.istore_n 3, 4, 0, 0, 0, 0, []) := rfl
theorem tX7_linesBy_4 : tbX7_linesBy 4 = (.iload_n 3, 5, 0, 0, 0, 0, []) := rfl
theorem tX7_linesBy_5 : tbX7_linesBy 5 = (.aload_n 0, 6, 0, 0, 0, 0, []) := rfl
theorem tX7_linesBy_6 : tbX7_linesBy 6 = (.getfield 7, 9, 7, 0, 0, 0, [(0, 0)]) := rfl
theorem tX7_linesBy_9 : tbX7_linesBy 9 = (.iconst 4, 10, 0, 0, 0, 4, []) := rfl
theorem tX7_linesBy_10 : tbX7_linesBy 10 = (.iaload, 11, 0, 0, 0, 0, []) := rfl
theorem tX7_linesBy_11 : tbX7_linesBy 11 = (.if_icmp .ge 28, 14, 39, 0, 0, 0, []) := rfl
theorem tX7_linesBy_14 : tbX7_linesBy 14 = (.iload_n 2, 15, 0, 0, 0, 0, []) := rfl
theorem tX7_linesBy_15 : tbX7_linesBy 15 = (.aload_n 0, 16, 0, 0, 0, 0, []) := rfl
theorem tX7_linesBy_16 : tbX7_linesBy 16 = (.iload_n 1, 17, 0, 0, 0, 0, []) := rfl
theorem tX7_linesBy_17 : tbX7_linesBy 17 = (.iload_n 3, 18, 0, 0, 0, 0, []) := rfl
theorem tX7_linesBy_18 : tbX7_linesBy 18 = (.invokevirtual 60, 21, 106, 2, 7, 0, []) := rfl
theorem tX7_linesBy_21 : tbX7_linesBy 21 = (.ifCond .eq 9, 24, 30, 0, 0, 0, []) := rfl
theorem tX7_linesBy_24 : tbX7_linesBy 24 = (.iconst 1, 25, 0, 0, 0, 1, []) := rfl
theorem tX7_linesBy_25 : tbX7_linesBy 25 = (.iload_n 3, 26, 0, 0, 0, 0, []) := rfl
theorem tX7_linesBy_26 : tbX7_linesBy 26 = (.ishl, 27, 0, 0, 0, 0, []) := rfl
theorem tX7_linesBy_27 : tbX7_linesBy 27 = (.goto 4, 30, 31, 0, 0, 0, []) := rfl
theorem tX7_linesBy_30 : tbX7_linesBy 30 = (.iconst 0, 31, 0, 0, 0, 0, []) := rfl
theorem tX7_linesBy_31 : tbX7_linesBy 31 = (.ior, 32, 0, 0, 0, 0, []) := rfl
theorem tX7_linesBy_32 : tbX7_linesBy 32 = (.istore_n 2, 33, 0, 0, 0, 0, []) := rfl
theorem tX7_linesBy_33 : tbX7_linesBy 33 = (.iinc 3 1, 36, 0, 0, 0, 1, []) := rfl
theorem tX7_linesBy_36 : tbX7_linesBy 36 = (.goto (-32), 39, 4, 0, 0, 0, []) := rfl
theorem tX7_linesBy_39 : tbX7_linesBy 39 = (.iload_n 2, 40, 0, 0, 0, 0, []) := rfl
theorem tX7_linesBy_40 : tbX7_linesBy 40 = (.ireturn, 41, 0, 0, 0, 0, []) := rfl
def ltX7_bits : List (Nat × pm_E) := [(0, .iconst 0, 1, 0, 0, 0, 0, []), (1, .istore_n 1, 2, 0, 0, 0, 0, []), (2, .iconst 0, 3, 0, 0, 0, 0, []), (3, .istore_n 2, 4, 0, 0, 0, 0, []), (4, .iload_n 2, 5, 0, 0, 0, 0, []), (5, .bipush 16, 7, 0, 0, 0, 16, []), (7, .if_icmp .ge 17, 10, 24, 0, 0, 0, []), (10, .iload_n 1, 11, 0, 0, 0, 0, []), (11, .iload_n 0, 12, 0, 0, 0, 0, []), (12, .iload_n 2, 13, 0, 0, 0, 0, []), (13, .ishr, 14, 0, 0, 0, 0, []), (14, .iconst 1, 15, 0, 0, 0, 1, []), (15, .iand, 16, 0, 0, 0, 0, []), (16, .iadd, 17, 0, 0, 0, 0, []), (17, .istore_n 1, 18, 0, 0, 0, 0, []), (18, .iinc 2 1, 21, 0, 0, 0, 1, []), (21, .goto (-17), 24, 4, 0, 0, 0, []), (24, .iload_n 1, 25, 0, 0, 0, 0, []), (25, .ireturn, 26, 0, 0, 0, 0, [])]
def tbX7_bits : Nat → pm_E := pm_lk ltX7_bits
theorem okX7_bits : ∀ pc, (tbX7_bits pc).1 = .nop ∨ pm_ok mX7_bits pw_Ms pc (tbX7_bits pc) := pm_lk_ok (by decide +kernel)
theorem nr_X7_bits : mX7_bits.2.2.2 = (some .int) := rfl
theorem tX7_bits_0 : tbX7_bits 0 = (.iconst 0, 1, 0, 0, 0, 0, []) := rfl
theorem tX7_bits_1 : tbX7_bits 1 = (.istore_n 1, 2, 0, 0, 0, 0, []) := rfl
theorem tX7_bits_2 : tbX7_bits 2 = (.iconst 0, 3, 0, 0, 0, 0, []) := rfl
theorem tX7_bits_3 : tbX7_bits 3 = (.istore_n 2, 4, 0, 0, 0, 0, []) := rfl
theorem tX7_bits_4 : tbX7_bits 4 = (.iload_n 2, 5, 0, 0, 0, 0, []) := rfl
theorem tX7_bits_5 : tbX7_bits 5 = (.bipush 16, 7, 0, 0, 0, 16, []) := rfl
theorem tX7_bits_7 : tbX7_bits 7 = (.if_icmp .ge 17, 10, 24, 0, 0, 0, []) := rfl
theorem tX7_bits_10 : tbX7_bits 10 = (.iload_n 1, 11, 0, 0, 0, 0, []) := rfl
theorem tX7_bits_11 : tbX7_bits 11 = (.iload_n 0, 12, 0, 0, 0, 0, []) := rfl
theorem tX7_bits_12 : tbX7_bits 12 = (.iload_n 2, 13, 0, 0, 0, 0, []) := rfl
theorem tX7_bits_13 : tbX7_bits 13 = (.ishr, 14, 0, 0, 0, 0, []) := rfl
theorem tX7_bits_14 : tbX7_bits 14 = (.iconst 1, 15, 0, 0, 0, 1, []) := rfl
theorem tX7_bits_15 : tbX7_bits 15 = (.iand, 16, 0, 0, 0, 0, []) := rfl
theorem tX7_bits_16 : tbX7_bits 16 = (.iadd, 17, 0, 0, 0, 0, []) := rfl
theorem tX7_bits_17 : tbX7_bits 17 = (.istore_n 1, 18, 0, 0, 0, 0, []) := rfl
theorem tX7_bits_18 : tbX7_bits 18 = (.iinc 2 1, 21, 0, 0, 0, 1, []) := rfl
theorem tX7_bits_21 : tbX7_bits 21 = (.goto (-17), 24, 4, 0, 0, 0, []) := rfl
theorem tX7_bits_24 : tbX7_bits 24 = (.iload_n 1, 25, 0, 0, 0, 0, []) := rfl
theorem tX7_bits_25 : tbX7_bits 25 = (.ireturn, 26, 0, 0, 0, 0, []) := rfl
def ltX7_mask : List (Nat × pm_E) := [(0, .aload_n 0, 1, 0, 0, 0, 0, []), (1, .iload_n 1, 2, 0, 0, 0, 0, []), (2, .invokevirtual 64, 5, 101, 1, 7, 0, []), (5, .ifCond .eq 10, 8, 15, 0, 0, 0, []), (8, .iload_n 2, 9, 0, 0, 0, 0, []), (9, .invokestatic 47, 12, 102, 1, 0, 0, []), (12, .ifCond .ne 5, 15, 17, 0, 0, 0, []), (15, .iconst (-1), 16, 0, 0, 0, -1, []), (16, .ireturn, 17, 0, 0, 0, 0, []), (17, .aload_n 0, 18, 0, 0, 0, 0, []), (18, .getfield 7, 21, 7, 0, 0, 0, [(0, 0)]), (21, .iload_n 1, 22, 0, 0, 0, 0, []), (22, .invokestatic 57, 25, 99, 1, 0, 0, []), (25, .iconst 5, 26, 0, 0, 0, 5, []), (26, .iadd, 27, 0, 0, 0, 0, []), (27, .iaload, 28, 0, 0, 0, 0, []), (28, .iload_n 2, 29, 0, 0, 0, 0, []), (29, .if_icmp .ne 6, 32, 35, 0, 0, 0, []), (32, .bipush (-2), 34, 0, 0, 0, -2, []), (34, .ireturn, 35, 0, 0, 0, 0, []), (35, .aload_n 0, 36, 0, 0, 0, 0, []), (36, .invokevirtual 50, 39, 95, 0, 7, 0, []), (39, .aload_n 0, 40, 0, 0, 0, 0, []), (40, .getfield 7, 43, 7, 0, 0, 0, [(0, 0)]), (43, .iload_n 1, 44, 0, 0, 0, 0, []), (44, .invokestatic 57, 47, 99, 1, 0, 0, []), (47, .iconst 5, 48, 0, 0, 0, 5, []), (48, .iadd, 49, 0, 0, 0, 0, []), (49, .iload_n 2, 50, 0, 0, 0, 0, []), (50, .iastore, 51, 0, 0, 0, 0, []), (51, .aload_n 0, 52, 0, 0, 0, 0, []), (52, .iconst 4, 53, 0, 0, 0, 4, []), (53, .invokevirtual 67, 56, 139, 1, 7, 0, []), (56, .invokestatic 70, 59, 108, 1, 0, 0, []), (59, .ireturn, 60, 0, 0, 0, 0, [])]
def tbX7_mask : Nat → pm_E := pm_lk ltX7_mask
theorem okX7_mask : ∀ pc, (tbX7_mask pc).1 = .nop ∨ pm_ok mX7_mask pw_Ms pc (tbX7_mask pc) := pm_lk_ok (by decide +kernel)
theorem nr_X7_mask : mX7_mask.2.2.2 = (some .int) := rfl
theorem tX7_mask_0 : tbX7_mask 0 = (.aload_n 0, 1, 0, 0, 0, 0, []) := rfl
theorem tX7_mask_1 : tbX7_mask 1 = (.iload_n 1, 2, 0, 0, 0, 0, []) := rfl
theorem tX7_mask_2 : tbX7_mask 2 = (.invokevirtual 64, 5, 101, 1, 7, 0, []) := rfl
theorem tX7_mask_5 : tbX7_mask 5 = (.ifCond .eq 10, 8, 15, 0, 0, 0, []) := rfl
theorem tX7_mask_8 : tbX7_mask 8 = (.iload_n 2, 9, 0, 0, 0, 0, []) := rfl
theorem tX7_mask_9 : tbX7_mask 9 = (.invokestatic 47, 12, 102, 1, 0, 0, []) := rfl
theorem tX7_mask_12 : tbX7_mask 12 = (.ifCond .ne 5, 15, 17, 0, 0, 0, []) := rfl
theorem tX7_mask_15 : tbX7_mask 15 = (.iconst (-1), 16, 0, 0, 0, -1, []) := rfl
theorem tX7_mask_16 : tbX7_mask 16 = (.ireturn, 17, 0, 0, 0, 0, []) := rfl
theorem tX7_mask_17 : tbX7_mask 17 = (.aload_n 0, 18, 0, 0, 0, 0, []) := rfl
theorem tX7_mask_18 : tbX7_mask 18 = (.getfield 7, 21, 7, 0, 0, 0, [(0, 0)]) := rfl
theorem tX7_mask_21 : tbX7_mask 21 = (.iload_n 1, 22, 0, 0, 0, 0, []) := rfl
theorem tX7_mask_22 : tbX7_mask 22 = (.invokestatic 57, 25, 99, 1, 0, 0, []) := rfl
theorem tX7_mask_25 : tbX7_mask 25 = (.iconst 5, 26, 0, 0, 0, 5, []) := rfl
theorem tX7_mask_26 : tbX7_mask 26 = (.iadd, 27, 0, 0, 0, 0, []) := rfl
theorem tX7_mask_27 : tbX7_mask 27 = (.iaload, 28, 0, 0, 0, 0, []) := rfl
theorem tX7_mask_28 : tbX7_mask 28 = (.iload_n 2, 29, 0, 0, 0, 0, []) := rfl
theorem tX7_mask_29 : tbX7_mask 29 = (.if_icmp .ne 6, 32, 35, 0, 0, 0, []) := rfl
theorem tX7_mask_32 : tbX7_mask 32 = (.bipush (-2), 34, 0, 0, 0, -2, []) := rfl
theorem tX7_mask_34 : tbX7_mask 34 = (.ireturn, 35, 0, 0, 0, 0, []) := rfl
theorem tX7_mask_35 : tbX7_mask 35 = (.aload_n 0, 36, 0, 0, 0, 0, []) := rfl
theorem tX7_mask_36 : tbX7_mask 36 = (.invokevirtual 50, 39, 95, 0, 7, 0, []) := rfl
theorem tX7_mask_39 : tbX7_mask 39 = (.aload_n 0, 40, 0, 0, 0, 0, []) := rfl
theorem tX7_mask_40 : tbX7_mask 40 = (.getfield 7, 43, 7, 0, 0, 0, [(0, 0)]) := rfl
theorem tX7_mask_43 : tbX7_mask 43 = (.iload_n 1, 44, 0, 0, 0, 0, []) := rfl
theorem tX7_mask_44 : tbX7_mask 44 = (.invokestatic 57, 47, 99, 1, 0, 0, []) := rfl
theorem tX7_mask_47 : tbX7_mask 47 = (.iconst 5, 48, 0, 0, 0, 5, []) := rfl
theorem tX7_mask_48 : tbX7_mask 48 = (.iadd, 49, 0, 0, 0, 0, []) := rfl
theorem tX7_mask_49 : tbX7_mask 49 = (.iload_n 2, 50, 0, 0, 0, 0, []) := rfl
theorem tX7_mask_50 : tbX7_mask 50 = (.iastore, 51, 0, 0, 0, 0, []) := rfl
theorem tX7_mask_51 : tbX7_mask 51 = (.aload_n 0, 52, 0, 0, 0, 0, []) := rfl
theorem tX7_mask_52 : tbX7_mask 52 = (.iconst 4, 53, 0, 0, 0, 4, []) := rfl
theorem tX7_mask_53 : tbX7_mask 53 = (.invokevirtual 67, 56, 139, 1, 7, 0, []) := rfl
theorem tX7_mask_56 : tbX7_mask 56 = (.invokestatic 70, 59, 108, 1, 0, 0, []) := rfl
theorem tX7_mask_59 : tbX7_mask 59 = (.ireturn, 60, 0, 0, 0, 0, []) := rfl
def ltX7_maskNode : List (Nat × pm_E) := [(0, .aload_n 0, 1, 0, 0, 0, 0, []), (1, .iload_n 1, 2, 0, 0, 0, 0, []), (2, .invokevirtual 43, 5, 100, 1, 7, 0, []), (5, .ifCond .eq 10, 8, 15, 0, 0, 0, []), (8, .iload_n 2, 9, 0, 0, 0, 0, []), (9, .invokestatic 47, 12, 102, 1, 0, 0, []), (12, .ifCond .ne 5, 15, 17, 0, 0, 0, []), (15, .iconst (-1), 16, 0, 0, 0, -1, []), (16, .ireturn, 17, 0, 0, 0, 0, []), (17, .aload_n 0, 18, 0, 0, 0, 0, []), (18, .getfield 7, 21, 7, 0, 0, 0, [(0, 0)]), (21, .iload_n 1, 22, 0, 0, 0, 0, []), (22, .invokestatic 39, 25, 98, 1, 0, 0, []), (25, .iconst 2, 26, 0, 0, 0, 2, []), (26, .iadd, 27, 0, 0, 0, 0, []), (27, .iaload, 28, 0, 0, 0, 0, []), (28, .iload_n 2, 29, 0, 0, 0, 0, []), (29, .if_icmp .ne 6, 32, 35, 0, 0, 0, []), (32, .bipush (-2), 34, 0, 0, 0, -2, []), (34, .ireturn, 35, 0, 0, 0, 0, []), (35, .aload_n 0, 36, 0, 0, 0, 0, []), (36, .invokevirtual 50, 39, 95, 0, 7, 0, []), (39, .aload_n 0, 40, 0, 0, 0, 0, []), (40, .getfield 7, 43, 7, 0, 0, 0, [(0, 0)]), (43, .iload_n 1, 44, 0, 0, 0, 0, []), (44, .invokestatic 39, 47, 98, 1, 0, 0, []), (47, .iconst 2, 48, 0, 0, 0, 2, []), (48, .iadd, 49, 0, 0, 0, 0, []), (49, .iload_n 2, 50, 0, 0, 0, 0, []), (50, .iastore, 51, 0, 0, 0, 0, []), (51, .aload_n 0, 52, 0, 0, 0, 0, []), (52, .iload_n 1, 53, 0, 0, 0, 0, []), (53, .invokevirtual 73, 56, 107, 1, 7, 0, []), (56, .invokestatic 70, 59, 108, 1, 0, 0, []), (59, .ireturn, 60, 0, 0, 0, 0, [])]
def tbX7_maskNode : Nat → pm_E := pm_lk ltX7_maskNode
theorem okX7_maskNode : ∀ pc, (tbX7_maskNode pc).1 = .nop ∨ pm_ok mX7_maskNode pw_Ms pc (tbX7_maskNode pc) := pm_lk_ok (by decide +kernel)
theorem nr_X7_maskNode : mX7_maskNode.2.2.2 = (some .int) := rfl
theorem tX7_maskNode_0 : tbX7_maskNode 0 = (.aload_n 0, 1, 0, 0, 0, 0, []) := rfl
theorem tX7_maskNode_1 : tbX7_maskNode 1 = (.iload_n 1, 2, 0, 0, 0, 0, []) := rfl
theorem tX7_maskNode_2 : tbX7_maskNode 2 = (.invokevirtual 43, 5, 100, 1, 7, 0, []) := rfl
theorem tX7_maskNode_5 : tbX7_maskNode 5 = (.ifCond .eq 10, 8, 15, 0, 0, 0, []) := rfl
theorem tX7_maskNode_8 : tbX7_maskNode 8 = (.iload_n 2, 9, 0, 0, 0, 0, []) := rfl
theorem tX7_maskNode_9 : tbX7_maskNode 9 = (.invokestatic 47, 12, 102, 1, 0, 0, []) := rfl
theorem tX7_maskNode_12 : tbX7_maskNode 12 = (.ifCond .ne 5, 15, 17, 0, 0, 0, []) := rfl
theorem tX7_maskNode_15 : tbX7_maskNode 15 = (.iconst (-1), 16, 0, 0, 0, -1, []) := rfl
theorem tX7_maskNode_16 : tbX7_maskNode 16 = (.ireturn, 17, 0, 0, 0, 0, []) := rfl
theorem tX7_maskNode_17 : tbX7_maskNode 17 = (.aload_n 0, 18, 0, 0, 0, 0, []) := rfl
theorem tX7_maskNode_18 : tbX7_maskNode 18 = (.getfield 7, 21, 7, 0, 0, 0, [(0, 0)]) := rfl
theorem tX7_maskNode_21 : tbX7_maskNode 21 = (.iload_n 1, 22, 0, 0, 0, 0, []) := rfl
theorem tX7_maskNode_22 : tbX7_maskNode 22 = (.invokestatic 39, 25, 98, 1, 0, 0, []) := rfl
theorem tX7_maskNode_25 : tbX7_maskNode 25 = (.iconst 2, 26, 0, 0, 0, 2, []) := rfl
theorem tX7_maskNode_26 : tbX7_maskNode 26 = (.iadd, 27, 0, 0, 0, 0, []) := rfl
theorem tX7_maskNode_27 : tbX7_maskNode 27 = (.iaload, 28, 0, 0, 0, 0, []) := rfl
theorem tX7_maskNode_28 : tbX7_maskNode 28 = (.iload_n 2, 29, 0, 0, 0, 0, []) := rfl
theorem tX7_maskNode_29 : tbX7_maskNode 29 = (.if_icmp .ne 6, 32, 35, 0, 0, 0, []) := rfl
theorem tX7_maskNode_32 : tbX7_maskNode 32 = (.bipush (-2), 34, 0, 0, 0, -2, []) := rfl
theorem tX7_maskNode_34 : tbX7_maskNode 34 = (.ireturn, 35, 0, 0, 0, 0, []) := rfl
theorem tX7_maskNode_35 : tbX7_maskNode 35 = (.aload_n 0, 36, 0, 0, 0, 0, []) := rfl
theorem tX7_maskNode_36 : tbX7_maskNode 36 = (.invokevirtual 50, 39, 95, 0, 7, 0, []) := rfl
theorem tX7_maskNode_39 : tbX7_maskNode 39 = (.aload_n 0, 40, 0, 0, 0, 0, []) := rfl
theorem tX7_maskNode_40 : tbX7_maskNode 40 = (.getfield 7, 43, 7, 0, 0, 0, [(0, 0)]) := rfl
theorem tX7_maskNode_43 : tbX7_maskNode 43 = (.iload_n 1, 44, 0, 0, 0, 0, []) := rfl
theorem tX7_maskNode_44 : tbX7_maskNode 44 = (.invokestatic 39, 47, 98, 1, 0, 0, []) := rfl
theorem tX7_maskNode_47 : tbX7_maskNode 47 = (.iconst 2, 48, 0, 0, 0, 2, []) := rfl
theorem tX7_maskNode_48 : tbX7_maskNode 48 = (.iadd, 49, 0, 0, 0, 0, []) := rfl
theorem tX7_maskNode_49 : tbX7_maskNode 49 = (.iload_n 2, 50, 0, 0, 0, 0, []) := rfl
theorem tX7_maskNode_50 : tbX7_maskNode 50 = (.iastore, 51, 0, 0, 0, 0, []) := rfl
theorem tX7_maskNode_51 : tbX7_maskNode 51 = (.aload_n 0, 52, 0, 0, 0, 0, []) := rfl
theorem tX7_maskNode_52 : tbX7_maskNode 52 = (.iload_n 1, 53, 0, 0, 0, 0, []) := rfl
theorem tX7_maskNode_53 : tbX7_maskNode 53 = (.invokevirtual 73, 56, 107, 1, 7, 0, []) := rfl
theorem tX7_maskNode_56 : tbX7_maskNode 56 = (.invokestatic 70, 59, 108, 1, 0, 0, []) := rfl
theorem tX7_maskNode_59 : tbX7_maskNode 59 = (.ireturn, 60, 0, 0, 0, 0, []) := rfl
def ltX7_threshold : List (Nat × pm_E) := [(0, .iload_n 1, 1, 0, 0, 0, 0, []), (1, .iconst 0, 2, 0, 0, 0, 0, []), (2, .bipush 8, 4, 0, 0, 0, 8, []), (4, .invokestatic 35, 7, 94, 3, 0, 0, []), (7, .ifCond .ne 5, 10, 12, 0, 0, 0, []), (10, .iconst (-1), 11, 0, 0, 0, -1, []), (11, .ireturn, 12, 0, 0, 0, 0, []), (12, .aload_n 0, 13, 0, 0, 0, 0, []), (13, .invokevirtual 50, 16, 95, 0, 7, 0, []), (16, .aload_n 0, 17, 0, 0, 0, 0, []), (17, .getfield 7, 20, 7, 0, 0, 0, [(0, 0)]), (20, .iconst 1, 21, 0, 0, 0, 1, []), (21, .iaload, 22, 0, 0, 0, 0, []), (22, .istore_n 2, 23, 0, 0, 0, 0, []), (23, .aload_n 0, 24, 0, 0, 0, 0, []), (24, .getfield 7, 27, 7, 0, 0, 0, [(0, 0)]), (27, .iconst 1, 28, 0, 0, 0, 1, []), (28, .iload_n 1, 29, 0, 0, 0, 0, []), (29, .iastore, 30, 0, 0, 0, 0, []), (30, .iload_n 2, 31, 0, 0, 0, 0, []), (31, .ireturn, 32, 0, 0, 0, 0, [])]
def tbX7_threshold : Nat → pm_E := pm_lk ltX7_threshold
theorem okX7_threshold : ∀ pc, (tbX7_threshold pc).1 = .nop ∨ pm_ok mX7_threshold pw_Ms pc (tbX7_threshold pc) := pm_lk_ok (by decide +kernel)
theorem nr_X7_threshold : mX7_threshold.2.2.2 = (some .int) := rfl
theorem tX7_threshold_0 : tbX7_threshold 0 = (.iload_n 1, 1, 0, 0, 0, 0, []) := rfl
theorem tX7_threshold_1 : tbX7_threshold 1 = (.iconst 0, 2, 0, 0, 0, 0, []) := rfl
theorem tX7_threshold_2 : tbX7_threshold 2 = (.bipush 8, 4, 0, 0, 0, 8, []) := rfl
theorem tX7_threshold_4 : tbX7_threshold 4 = (.invokestatic 35, 7, 94, 3, 0, 0, []) := rfl
theorem tX7_threshold_7 : tbX7_threshold 7 = (.ifCond .ne 5, 10, 12, 0, 0, 0, []) := rfl
theorem tX7_threshold_10 : tbX7_threshold 10 = (.iconst (-1), 11, 0, 0, 0, -1, []) := rfl
theorem tX7_threshold_11 : tbX7_threshold 11 = (.ireturn, 12, 0, 0, 0, 0, []) := rfl
theorem tX7_threshold_12 : tbX7_threshold 12 = (.aload_n 0, 13, 0, 0, 0, 0, []) := rfl
theorem tX7_threshold_13 : tbX7_threshold 13 = (.invokevirtual 50, 16, 95, 0, 7, 0, []) := rfl
theorem tX7_threshold_16 : tbX7_threshold 16 = (.aload_n 0, 17, 0, 0, 0, 0, []) := rfl
theorem tX7_threshold_17 : tbX7_threshold 17 = (.getfield 7, 20, 7, 0, 0, 0, [(0, 0)]) := rfl
theorem tX7_threshold_20 : tbX7_threshold 20 = (.iconst 1, 21, 0, 0, 0, 1, []) := rfl
theorem tX7_threshold_21 : tbX7_threshold 21 = (.iaload, 22, 0, 0, 0, 0, []) := rfl
theorem tX7_threshold_22 : tbX7_threshold 22 = (.istore_n 2, 23, 0, 0, 0, 0, []) := rfl
theorem tX7_threshold_23 : tbX7_threshold 23 = (.aload_n 0, 24, 0, 0, 0, 0, []) := rfl
theorem tX7_threshold_24 : tbX7_threshold 24 = (.getfield 7, 27, 7, 0, 0, 0, [(0, 0)]) := rfl
theorem tX7_threshold_27 : tbX7_threshold 27 = (.iconst 1, 28, 0, 0, 0, 1, []) := rfl
theorem tX7_threshold_28 : tbX7_threshold 28 = (.iload_n 1, 29, 0, 0, 0, 0, []) := rfl
theorem tX7_threshold_29 : tbX7_threshold 29 = (.iastore, 30, 0, 0, 0, 0, []) := rfl
theorem tX7_threshold_30 : tbX7_threshold 30 = (.iload_n 2, 31, 0, 0, 0, 0, []) := rfl
theorem tX7_threshold_31 : tbX7_threshold 31 = (.ireturn, 32, 0, 0, 0, 0, []) := rfl
def ltX7_late : List (Nat × pm_E) := [(0, .iload_n 1, 1, 0, 0, 0, 0, []), (1, .iconst 0, 2, 0, 0, 0, 0, []), (2, .bipush 50, 4, 0, 0, 0, 50, []), (4, .invokestatic 35, 7, 94, 3, 0, 0, []), (7, .ifCond .ne 5, 10, 12, 0, 0, 0, []), (10, .iconst (-1), 11, 0, 0, 0, -1, []), (11, .ireturn, 12, 0, 0, 0, 0, []), (12, .aload_n 0, 13, 0, 0, 0, 0, []), (13, .invokevirtual 50, 16, 95, 0, 7, 0, []), (16, .aload_n 0, 17, 0, 0, 0, 0, []), (17, .getfield 7, 20, 7, 0, 0, 0, [(0, 0)]), (20, .iconst 2, 21, 0, 0, 0, 2, []), (21, .iaload, 22, 0, 0, 0, 0, []), (22, .istore_n 2, 23, 0, 0, 0, 0, []), (23, .aload_n 0, 24, 0, 0, 0, 0, []), (24, .getfield 7, 27, 7, 0, 0, 0, [(0, 0)]), (27, .iconst 2, 28, 0, 0, 0, 2, []), (28, .iload_n 1, 29, 0, 0, 0, 0, []), (29, .iastore, 30, 0, 0, 0, 0, []), (30, .iload_n 2, 31, 0, 0, 0, 0, []), (31, .ireturn, 32, 0, 0, 0, 0, [])]
def tbX7_late : Nat → pm_E := pm_lk ltX7_late
theorem okX7_late : ∀ pc, (tbX7_late pc).1 = .nop ∨ pm_ok mX7_late pw_Ms pc (tbX7_late pc) := pm_lk_ok (by decide +kernel)
theorem nr_X7_late : mX7_late.2.2.2 = (some .int) := rfl
theorem tX7_late_0 : tbX7_late 0 = (.iload_n 1, 1, 0, 0, 0, 0, []) := rfl
theorem tX7_late_1 : tbX7_late 1 = (.iconst 0, 2, 0, 0, 0, 0, []) := rfl
theorem tX7_late_2 : tbX7_late 2 = (.bipush 50, 4, 0, 0, 0, 50, []) := rfl
theorem tX7_late_4 : tbX7_late 4 = (.invokestatic 35, 7, 94, 3, 0, 0, []) := rfl
theorem tX7_late_7 : tbX7_late 7 = (.ifCond .ne 5, 10, 12, 0, 0, 0, []) := rfl
theorem tX7_late_10 : tbX7_late 10 = (.iconst (-1), 11, 0, 0, 0, -1, []) := rfl
theorem tX7_late_11 : tbX7_late 11 = (.ireturn, 12, 0, 0, 0, 0, []) := rfl
theorem tX7_late_12 : tbX7_late 12 = (.aload_n 0, 13, 0, 0, 0, 0, []) := rfl
theorem tX7_late_13 : tbX7_late 13 = (.invokevirtual 50, 16, 95, 0, 7, 0, []) := rfl
theorem tX7_late_16 : tbX7_late 16 = (.aload_n 0, 17, 0, 0, 0, 0, []) := rfl
theorem tX7_late_17 : tbX7_late 17 = (.getfield 7, 20, 7, 0, 0, 0, [(0, 0)]) := rfl
theorem tX7_late_20 : tbX7_late 20 = (.iconst 2, 21, 0, 0, 0, 2, []) := rfl
theorem tX7_late_21 : tbX7_late 21 = (.iaload, 22, 0, 0, 0, 0, []) := rfl
theorem tX7_late_22 : tbX7_late 22 = (.istore_n 2, 23, 0, 0, 0, 0, []) := rfl
theorem tX7_late_23 : tbX7_late 23 = (.aload_n 0, 24, 0, 0, 0, 0, []) := rfl
theorem tX7_late_24 : tbX7_late 24 = (.getfield 7, 27, 7, 0, 0, 0, [(0, 0)]) := rfl
theorem tX7_late_27 : tbX7_late 27 = (.iconst 2, 28, 0, 0, 0, 2, []) := rfl
theorem tX7_late_28 : tbX7_late 28 = (.iload_n 1, 29, 0, 0, 0, 0, []) := rfl
theorem tX7_late_29 : tbX7_late 29 = (.iastore, 30, 0, 0, 0, 0, []) := rfl
theorem tX7_late_30 : tbX7_late 30 = (.iload_n 2, 31, 0, 0, 0, 0, []) := rfl
theorem tX7_late_31 : tbX7_late 31 = (.ireturn, 32, 0, 0, 0, 0, []) := rfl
def ltX7_isHidden : List (Nat × pm_E) := [(0, .aload_n 0, 1, 0, 0, 0, 0, []), (1, .getfield 7, 4, 7, 0, 0, 0, [(0, 0)]), (4, .iload_n 1, 5, 0, 0, 0, 0, []), (5, .invokestatic 57, 8, 99, 1, 0, 0, []), (8, .iconst 5, 9, 0, 0, 0, 5, []), (9, .iadd, 10, 0, 0, 0, 0, []), (10, .iaload, 11, 0, 0, 0, 0, []), (11, .iconst 1, 12, 0, 0, 0, 1, []), (12, .if_icmp .ne 7, 15, 19, 0, 0, 0, []), (15, .iconst 1, 16, 0, 0, 0, 1, []), (16, .goto 4, 19, 20, 0, 0, 0, []), (19, .iconst 0, 20, 0, 0, 0, 0, []), (20, .istore_n 2, 21, 0, 0, 0, 0, []), (21, .aload_n 0, 22, 0, 0, 0, 0, []), (22, .getfield 7, 25, 7, 0, 0, 0, [(0, 0)]), (25, .iload_n 1, 26, 0, 0, 0, 0, []), (26, .invokestatic 57, 29, 99, 1, 0, 0, []), (29, .iconst 0, 30, 0, 0, 0, 0, []), (30, .iadd, 31, 0, 0, 0, 0, []), (31, .iaload, 32, 0, 0, 0, 0, []), (32, .istore_n 3, 33, 0, 0, 0, 0, []), (33, .iload_n 3, 34, 0, 0, 0, 0, []), (34, .ifCond .lt 41, 37, 75, 0, 0, 0, []), (37, .iload_n 2, 38, 0, 0, 0, 0, []), (38, .aload_n 0, 39, 0, 0, 0, 0, []), (39, .getfield 7, 42, 7, 0, 0, 0, [(0, 0)]), (42, .iload_n 3, 43, 0, 0, 0, 0, []), (43, .invokestatic 39, 46, 98, 1, 0, 0, []), (46, .iconst 2, 47, 0, 0, 0, 2, []), (47, .iadd, 48, 0, 0, 0, 0, []), (48, .iaload, 49, 0, 0, 0, 0, []), (49, .iconst 1, 50, 0, 0, 0, 1, []), (50, .if_icmp .ne 7, 53, 57, 0, 0, 0, []), (53, .iconst 1, 54, 0, 0, 0, 1, []), (54, .goto 4, 57, 58, 0, 0, 0, []), (57, .iconst 0, 58, 0, 0, 0, 0, []), (58, .ior, 59, 0, 0, 0, 0, []), (59, .istore_n 2, 60, 0, 0, 0, 0, []), (60, .aload_n 0, 61, 0, 0, 0, 0, []), (61, .getfield 7, 64, 7, 0, 0, 0, [(0, 0)]), (64, .iload_n 3, 65, 0, 0, 0, 0, []), (65, .invokestatic 39, 68, 98, 1, 0, 0, []), (68, .iconst 0, 69, 0, 0, 0, 0, []), (69, .iadd, 70, 0, 0, 0, 0, []), (70, .iaload, 71, 0, 0, 0, 0, []), (71, .istore_n 3, 72, 0, 0, 0, 0, []), (72, .goto (-39), 75, 33, 0, 0, 0, []), (75, .iload_n 2, 76, 0, 0, 0, 0, []), (76, .ireturn, 77, 0, 0, 0, 0, [])]
def tbX7_isHidden : Nat → pm_E := pm_lk ltX7_isHidden
theorem okX7_isHidden : ∀ pc, (tbX7_isHidden pc).1 = .nop ∨ pm_ok mX7_isHidden pw_Ms pc (tbX7_isHidden pc) := pm_lk_ok (by decide +kernel)
theorem nr_X7_isHidden : mX7_isHidden.2.2.2 = (some .boolean) := rfl
theorem tX7_isHidden_0 : tbX7_isHidden 0 = (.aload_n 0, 1, 0, 0, 0, 0, []) := rfl
theorem tX7_isHidden_1 : tbX7_isHidden 1 = (.getfield 7, 4, 7, 0, 0, 0, [(0, 0)]) := rfl
theorem tX7_isHidden_4 : tbX7_isHidden 4 = (.iload_n 1, 5, 0, 0, 0, 0, []) := rfl
theorem tX7_isHidden_5 : tbX7_isHidden 5 = (.invokestatic 57, 8, 99, 1, 0, 0, []) := rfl
theorem tX7_isHidden_8 : tbX7_isHidden 8 = (.iconst 5, 9, 0, 0, 0, 5, []) := rfl
theorem tX7_isHidden_9 : tbX7_isHidden 9 = (.iadd, 10, 0, 0, 0, 0, []) := rfl
theorem tX7_isHidden_10 : tbX7_isHidden 10 = (.iaload, 11, 0, 0, 0, 0, []) := rfl
theorem tX7_isHidden_11 : tbX7_isHidden 11 = (.iconst 1, 12, 0, 0, 0, 1, []) := rfl
theorem tX7_isHidden_12 : tbX7_isHidden 12 = (.if_icmp .ne 7, 15, 19, 0, 0, 0, []) := rfl
theorem tX7_isHidden_15 : tbX7_isHidden 15 = (.iconst 1, 16, 0, 0, 0, 1, []) := rfl
theorem tX7_isHidden_16 : tbX7_isHidden 16 = (.goto 4, 19, 20, 0, 0, 0, []) := rfl
theorem tX7_isHidden_19 : tbX7_isHidden 19 = (.iconst 0, 20, 0, 0, 0, 0, []) := rfl
theorem tX7_isHidden_20 : tbX7_isHidden 20 = (.istore_n 2, 21, 0, 0, 0, 0, []) := rfl
theorem tX7_isHidden_21 : tbX7_isHidden 21 = (.aload_n 0, 22, 0, 0, 0, 0, []) := rfl
theorem tX7_isHidden_22 : tbX7_isHidden 22 = (.getfield 7, 25, 7, 0, 0, 0, [(0, 0)]) := rfl
theorem tX7_isHidden_25 : tbX7_isHidden 25 = (.iload_n 1, 26, 0, 0, 0, 0, []) := rfl
theorem tX7_isHidden_26 : tbX7_isHidden 26 = (.invokestatic 57, 29, 99, 1, 0, 0, []) := rfl
theorem tX7_isHidden_29 : tbX7_isHidden 29 = (.iconst 0, 30, 0, 0, 0, 0, []) := rfl
theorem tX7_isHidden_30 : tbX7_isHidden 30 = (.iadd, 31, 0, 0, 0, 0, []) := rfl
theorem tX7_isHidden_31 : tbX7_isHidden 31 = (.iaload, 32, 0, 0, 0, 0, []) := rfl
theorem tX7_isHidden_32 : tbX7_isHidden 32 = (.istore_n 3, 33, 0, 0, 0, 0, []) := rfl
theorem tX7_isHidden_33 : tbX7_isHidden 33 = (.iload_n 3, 34, 0, 0, 0, 0, []) := rfl
theorem tX7_isHidden_34 : tbX7_isHidden 34 = (.ifCond .lt 41, 37, 75, 0, 0, 0, []) := rfl
theorem tX7_isHidden_37 : tbX7_isHidden 37 = (.iload_n 2, 38, 0, 0, 0, 0, []) := rfl
theorem tX7_isHidden_38 : tbX7_isHidden 38 = (.aload_n 0, 39, 0, 0, 0, 0, []) := rfl
theorem tX7_isHidden_39 : tbX7_isHidden 39 = (.getfield 7, 42, 7, 0, 0, 0, [(0, 0)]) := rfl
theorem tX7_isHidden_42 : tbX7_isHidden 42 = (.iload_n 3, 43, 0, 0, 0, 0, []) := rfl
theorem tX7_isHidden_43 : tbX7_isHidden 43 = (.invokestatic 39, 46, 98, 1, 0, 0, []) := rfl
theorem tX7_isHidden_46 : tbX7_isHidden 46 = (.iconst 2, 47, 0, 0, 0, 2, []) := rfl
theorem tX7_isHidden_47 : tbX7_isHidden 47 = (.iadd, 48, 0, 0, 0, 0, []) := rfl
theorem tX7_isHidden_48 : tbX7_isHidden 48 = (.iaload, 49, 0, 0, 0, 0, []) := rfl
theorem tX7_isHidden_49 : tbX7_isHidden 49 = (.iconst 1, 50, 0, 0, 0, 1, []) := rfl
theorem tX7_isHidden_50 : tbX7_isHidden 50 = (.if_icmp .ne 7, 53, 57, 0, 0, 0, []) := rfl
theorem tX7_isHidden_53 : tbX7_isHidden 53 = (.iconst 1, 54, 0, 0, 0, 1, []) := rfl
theorem tX7_isHidden_54 : tbX7_isHidden 54 = (.goto 4, 57, 58, 0, 0, 0, []) := rfl
theorem tX7_isHidden_57 : tbX7_isHidden 57 = (.iconst 0, 58, 0, 0, 0, 0, []) := rfl
theorem tX7_isHidden_58 : tbX7_isHidden 58 = (.ior, 59, 0, 0, 0, 0, []) := rfl
theorem tX7_isHidden_59 : tbX7_isHidden 59 = (.istore_n 2, 60, 0, 0, 0, 0, []) := rfl
theorem tX7_isHidden_60 : tbX7_isHidden 60 = (.aload_n 0, 61, 0, 0, 0, 0, []) := rfl
theorem tX7_isHidden_61 : tbX7_isHidden 61 = (.getfield 7, 64, 7, 0, 0, 0, [(0, 0)]) := rfl
theorem tX7_isHidden_64 : tbX7_isHidden 64 = (.iload_n 3, 65, 0, 0, 0, 0, []) := rfl
theorem tX7_isHidden_65 : tbX7_isHidden 65 = (.invokestatic 39, 68, 98, 1, 0, 0, []) := rfl
theorem tX7_isHidden_68 : tbX7_isHidden 68 = (.iconst 0, 69, 0, 0, 0, 0, []) := rfl
theorem tX7_isHidden_69 : tbX7_isHidden 69 = (.iadd, 70, 0, 0, 0, 0, []) := rfl
theorem tX7_isHidden_70 : tbX7_isHidden 70 = (.iaload, 71, 0, 0, 0, 0, []) := rfl
theorem tX7_isHidden_71 : tbX7_isHidden 71 = (.istore_n 3, 72, 0, 0, 0, 0, []) := rfl
theorem tX7_isHidden_72 : tbX7_isHidden 72 = (.goto (-39), 75, 33, 0, 0, 0, []) := rfl
theorem tX7_isHidden_75 : tbX7_isHidden 75 = (.iload_n 2, 76, 0, 0, 0, 0, []) := rfl
theorem tX7_isHidden_76 : tbX7_isHidden 76 = (.ireturn, 77, 0, 0, 0, 0, []) := rfl
def ltX7_isReady : List (Nat × pm_E) := [(0, .aload_n 0, 1, 0, 0, 0, 0, []), (1, .getfield 7, 4, 7, 0, 0, 0, [(0, 0)]), (4, .bipush 10, 6, 0, 0, 0, 10, []), (6, .iaload, 7, 0, 0, 0, 0, []), (7, .ifCond .ne 7, 10, 14, 0, 0, 0, []), (10, .iconst (-1), 11, 0, 0, 0, -1, []), (11, .goto 30, 14, 41, 0, 0, 0, []), (14, .aload_n 0, 15, 0, 0, 0, 0, []), (15, .getfield 7, 18, 7, 0, 0, 0, [(0, 0)]), (18, .aload_n 0, 19, 0, 0, 0, 0, []), (19, .getfield 7, 22, 7, 0, 0, 0, [(0, 0)]), (22, .bipush 11, 24, 0, 0, 0, 11, []), (24, .aload_n 0, 25, 0, 0, 0, 0, []), (25, .getfield 7, 28, 7, 0, 0, 0, [(0, 0)]), (28, .bipush 10, 30, 0, 0, 0, 10, []), (30, .iaload, 31, 0, 0, 0, 0, []), (31, .iadd, 32, 0, 0, 0, 0, []), (32, .iconst 1, 33, 0, 0, 0, 1, []), (33, .isub, 34, 0, 0, 0, 0, []), (34, .iaload, 35, 0, 0, 0, 0, []), (35, .invokestatic 57, 38, 99, 1, 0, 0, []), (38, .iconst 1, 39, 0, 0, 0, 1, []), (39, .iadd, 40, 0, 0, 0, 0, []), (40, .iaload, 41, 0, 0, 0, 0, []), (41, .istore_n 2, 42, 0, 0, 0, 0, []), (42, .aload_n 0, 43, 0, 0, 0, 0, []), (43, .getfield 7, 46, 7, 0, 0, 0, [(0, 0)]), (46, .iload_n 1, 47, 0, 0, 0, 0, []), (47, .invokestatic 57, 50, 99, 1, 0, 0, []), (50, .iconst 1, 51, 0, 0, 0, 1, []), (51, .iadd, 52, 0, 0, 0, 0, []), (52, .iaload, 53, 0, 0, 0, 0, []), (53, .istore_n 3, 54, 0, 0, 0, 0, []), (54, .aload_n 0, 55, 0, 0, 0, 0, []), (55, .getfield 7, 58, 7, 0, 0, 0, [(0, 0)]), (58, .iload_n 1, 59, 0, 0, 0, 0, []), (59, .invokestatic 57, 62, 99, 1, 0, 0, []), (62, .iconst 3, 63, 0, 0, 0, 3, []), (63, .iadd, 64, 0, 0, 0, 0, []), (64, .iaload, 65, 0, 0, 0, 0, []), (65, .iconst 1, 66, 0, 0, 0, 1, []), (66, .if_icmp .ne 44, 69, 110, 0, 0, 0, []), (69, .aload_n 0, 70, 0, 0, 0, 0, []), (70, .getfield 7, 73, 7, 0, 0, 0, [(0, 0)]), (73, .iload_n 1, 74, 0, 0, 0, 0, []), (74, .invokestatic 57, 77, 99, 1, 0, 0, []), (77, .iconst 4, 78, 0, 0, 0, 4, []), (78, .iadd, 79, 0, 0, 0, 0, []), (79, .iaload, 80, 0, 0, 0, 0, []), (80, .ifCond .ne 30, 83, 110, 0, 0, 0, []), (83, .aload_n 0, 84, 0, 0, 0, 0, []), (84, .iload_n 1, 85, 0, 0, 0, 0, []), (85, .invokevirtual 76, 88, 113, 1, 7, 0, []), (88, .ifCond .ne 22, 91, 110, 0, 0, 0, []), (91, .iload_n 3, 92, 0, 0, 0, 0, []), (92, .aload_n 0, 93, 0, 0, 0, 0, []), (93, .getfield 7, 96, 7, 0, 0, 0, [(0, 0)]), (96, .iconst 1, 97, 0, 0, 0, 1, []), (97, .iaload, 98, 0, 0, 0, 0, []), (98, .if_icmp .lt 12, 101, 110, 0, 0, 0, []), (101, .iload_n 3, 102, 0, 0, 0, 0, []), (102, .iload_n 2, 103, 0, 0, 0, 0, []), (103, .if_icmp .le 7, 106, 110, 0, 0, 0, []), (106, .iconst 1, 107, 0, 0, 0, 1, []), (107, .goto 4, 110, 111, 0, 0, 0, []), (110, .iconst 0, 111, 0, 0, 0, 0, []), (111, .ireturn, 112, 0, 0, 0, 0, [])]
def tbX7_isReady : Nat → pm_E := pm_lk ltX7_isReady
theorem okX7_isReady : ∀ pc, (tbX7_isReady pc).1 = .nop ∨ pm_ok mX7_isReady pw_Ms pc (tbX7_isReady pc) := pm_lk_ok (by decide +kernel)
theorem nr_X7_isReady : mX7_isReady.2.2.2 = (some .boolean) := rfl
theorem tX7_isReady_0 : tbX7_isReady 0 = (.aload_n 0, 1, 0, 0, 0, 0, []) := rfl
theorem tX7_isReady_1 : tbX7_isReady 1 = (.getfield 7, 4, 7, 0, 0, 0, [(0, 0)]) := rfl
theorem tX7_isReady_4 : tbX7_isReady 4 = (.bipush 10, 6, 0, 0, 0, 10, []) := rfl
theorem tX7_isReady_6 : tbX7_isReady 6 = (.iaload, 7, 0, 0, 0, 0, []) := rfl
theorem tX7_isReady_7 : tbX7_isReady 7 = (.ifCond .ne 7, 10, 14, 0, 0, 0, []) := rfl
theorem tX7_isReady_10 : tbX7_isReady 10 = (.iconst (-1), 11, 0, 0, 0, -1, []) := rfl
theorem tX7_isReady_11 : tbX7_isReady 11 = (.goto 30, 14, 41, 0, 0, 0, []) := rfl
theorem tX7_isReady_14 : tbX7_isReady 14 = (.aload_n 0, 15, 0, 0, 0, 0, []) := rfl
theorem tX7_isReady_15 : tbX7_isReady 15 = (.getfield 7, 18, 7, 0, 0, 0, [(0, 0)]) := rfl
theorem tX7_isReady_18 : tbX7_isReady 18 = (.aload_n 0, 19, 0, 0, 0, 0, []) := rfl
theorem tX7_isReady_19 : tbX7_isReady 19 = (.getfield 7, 22, 7, 0, 0, 0, [(0, 0)]) := rfl
theorem tX7_isReady_22 : tbX7_isReady 22 = (.bipush 11, 24, 0, 0, 0, 11, []) := rfl
theorem tX7_isReady_24 : tbX7_isReady 24 = (.aload_n 0, 25, 0, 0, 0, 0, []) := rfl
theorem tX7_isReady_25 : tbX7_isReady 25 = (.getfield 7, 28, 7, 0, 0, 0, [(0, 0)]) := rfl
theorem tX7_isReady_28 : tbX7_isReady 28 = (.bipush 10, 30, 0, 0, 0, 10, []) := rfl
theorem tX7_isReady_30 : tbX7_isReady 30 = (.iaload, 31, 0, 0, 0, 0, []) := rfl
theorem tX7_isReady_31 : tbX7_isReady 31 = (.iadd, 32, 0, 0, 0, 0, []) := rfl
theorem tX7_isReady_32 : tbX7_isReady 32 = (.iconst 1, 33, 0, 0, 0, 1, []) := rfl
theorem tX7_isReady_33 : tbX7_isReady 33 = (.isub, 34, 0, 0, 0, 0, []) := rfl
theorem tX7_isReady_34 : tbX7_isReady 34 = (.iaload, 35, 0, 0, 0, 0, []) := rfl
theorem tX7_isReady_35 : tbX7_isReady 35 = (.invokestatic 57, 38, 99, 1, 0, 0, []) := rfl
theorem tX7_isReady_38 : tbX7_isReady 38 = (.iconst 1, 39, 0, 0, 0, 1, []) := rfl
theorem tX7_isReady_39 : tbX7_isReady 39 = (.iadd, 40, 0, 0, 0, 0, []) := rfl
theorem tX7_isReady_40 : tbX7_isReady 40 = (.iaload, 41, 0, 0, 0, 0, []) := rfl
theorem tX7_isReady_41 : tbX7_isReady 41 = (.istore_n 2, 42, 0, 0, 0, 0, []) := rfl
theorem tX7_isReady_42 : tbX7_isReady 42 = (.aload_n 0, 43, 0, 0, 0, 0, []) := rfl
theorem tX7_isReady_43 : tbX7_isReady 43 = (.getfield 7, 46, 7, 0, 0, 0, [(0, 0)]) := rfl
theorem tX7_isReady_46 : tbX7_isReady 46 = (.iload_n 1, 47, 0, 0, 0, 0, []) := rfl
theorem tX7_isReady_47 : tbX7_isReady 47 = (.invokestatic 57, 50, 99, 1, 0, 0, []) := rfl
theorem tX7_isReady_50 : tbX7_isReady 50 = (.iconst 1, 51, 0, 0, 0, 1, []) := rfl
theorem tX7_isReady_51 : tbX7_isReady 51 = (.iadd, 52, 0, 0, 0, 0, []) := rfl
theorem tX7_isReady_52 : tbX7_isReady 52 = (.iaload, 53, 0, 0, 0, 0, []) := rfl
theorem tX7_isReady_53 : tbX7_isReady 53 = (.istore_n 3, 54, 0, 0, 0, 0, []) := rfl
theorem tX7_isReady_54 : tbX7_isReady 54 = (.aload_n 0, 55, 0, 0, 0, 0, []) := rfl
theorem tX7_isReady_55 : tbX7_isReady 55 = (.getfield 7, 58, 7, 0, 0, 0, [(0, 0)]) := rfl
theorem tX7_isReady_58 : tbX7_isReady 58 = (.iload_n 1, 59, 0, 0, 0, 0, []) := rfl
theorem tX7_isReady_59 : tbX7_isReady 59 = (.invokestatic 57, 62, 99, 1, 0, 0, []) := rfl
theorem tX7_isReady_62 : tbX7_isReady 62 = (.iconst 3, 63, 0, 0, 0, 3, []) := rfl
theorem tX7_isReady_63 : tbX7_isReady 63 = (.iadd, 64, 0, 0, 0, 0, []) := rfl
theorem tX7_isReady_64 : tbX7_isReady 64 = (.iaload, 65, 0, 0, 0, 0, []) := rfl
theorem tX7_isReady_65 : tbX7_isReady 65 = (.iconst 1, 66, 0, 0, 0, 1, []) := rfl
theorem tX7_isReady_66 : tbX7_isReady 66 = (.if_icmp .ne 44, 69, 110, 0, 0, 0, []) := rfl
theorem tX7_isReady_69 : tbX7_isReady 69 = (.aload_n 0, 70, 0, 0, 0, 0, []) := rfl
theorem tX7_isReady_70 : tbX7_isReady 70 = (.getfield 7, 73, 7, 0, 0, 0, [(0, 0)]) := rfl
theorem tX7_isReady_73 : tbX7_isReady 73 = (.iload_n 1, 74, 0, 0, 0, 0, []) := rfl
theorem tX7_isReady_74 : tbX7_isReady 74 = (.invokestatic 57, 77, 99, 1, 0, 0, []) := rfl
theorem tX7_isReady_77 : tbX7_isReady 77 = (.iconst 4, 78, 0, 0, 0, 4, []) := rfl
theorem tX7_isReady_78 : tbX7_isReady 78 = (.iadd, 79, 0, 0, 0, 0, []) := rfl
theorem tX7_isReady_79 : tbX7_isReady 79 = (.iaload, 80, 0, 0, 0, 0, []) := rfl
theorem tX7_isReady_80 : tbX7_isReady 80 = (.ifCond .ne 30, 83, 110, 0, 0, 0, []) := rfl
theorem tX7_isReady_83 : tbX7_isReady 83 = (.aload_n 0, 84, 0, 0, 0, 0, []) := rfl
theorem tX7_isReady_84 : tbX7_isReady 84 = (.iload_n 1, 85, 0, 0, 0, 0, []) := rfl
theorem tX7_isReady_85 : tbX7_isReady 85 = (.invokevirtual 76, 88, 113, 1, 7, 0, []) := rfl
theorem tX7_isReady_88 : tbX7_isReady 88 = (.ifCond .ne 22, 91, 110, 0, 0, 0, []) := rfl
theorem tX7_isReady_91 : tbX7_isReady 91 = (.iload_n 3, 92, 0, 0, 0, 0, []) := rfl
theorem tX7_isReady_92 : tbX7_isReady 92 = (.aload_n 0, 93, 0, 0, 0, 0, []) := rfl
theorem tX7_isReady_93 : tbX7_isReady 93 = (.getfield 7, 96, 7, 0, 0, 0, [(0, 0)]) := rfl
theorem tX7_isReady_96 : tbX7_isReady 96 = (.iconst 1, 97, 0, 0, 0, 1, []) := rfl
theorem tX7_isReady_97 : tbX7_isReady 97 = (.iaload, 98, 0, 0, 0, 0, []) := rfl
theorem tX7_isReady_98 : tbX7_isReady 98 = (.if_icmp .lt 12, 101, 110, 0, 0, 0, []) := rfl
theorem tX7_isReady_101 : tbX7_isReady 101 = (.iload_n 3, 102, 0, 0, 0, 0, []) := rfl
theorem tX7_isReady_102 : tbX7_isReady 102 = (.iload_n 2, 103, 0, 0, 0, 0, []) := rfl
theorem tX7_isReady_103 : tbX7_isReady 103 = (.if_icmp .le 7, 106, 110, 0, 0, 0, []) := rfl
theorem tX7_isReady_106 : tbX7_isReady 106 = (.iconst 1, 107, 0, 0, 0, 1, []) := rfl
theorem tX7_isReady_107 : tbX7_isReady 107 = (.goto 4, 110, 111, 0, 0, 0, []) := rfl
theorem tX7_isReady_110 : tbX7_isReady 110 = (.iconst 0, 111, 0, 0, 0, 0, []) := rfl
theorem tX7_isReady_111 : tbX7_isReady 111 = (.ireturn, 112, 0, 0, 0, 0, []) := rfl
def ltX7_layOrder : List (Nat × pm_E) := [(0, .aload_n 0, 1, 0, 0, 0, 0, []), (1, .getfield 22, 4, 7, 4, 0, 0, [(0, 0)]), (4, .iconst 0, 5, 0, 0, 0, 0, []), (5, .iconst 0, 6, 0, 0, 0, 0, []), (6, .iastore, 7, 0, 0, 0, 0, []), (7, .aload_n 0, 8, 0, 0, 0, 0, []), (8, .getfield 25, 11, 7, 5, 0, 0, [(0, 0)]), (11, .iconst 0, 12, 0, 0, 0, 0, []), (12, .iconst 0, 13, 0, 0, 0, 0, []), (13, .iastore, 14, 0, 0, 0, 0, []), (14, .iconst 1, 15, 0, 0, 0, 1, []), (15, .istore_n 1, 16, 0, 0, 0, 0, []), (16, .iconst 0, 17, 0, 0, 0, 0, []), (17, .istore_n 2, 18, 0, 0, 0, 0, []), (18, .iload_n 1, 19, 0, 0, 0, 0, []), (19, .ifCond .le 117, 22, 136, 0, 0, 0, []), (22, .aload_n 0, 23, 0, 0, 0, 0, []), (23, .getfield 22, 26, 7, 4, 0, 0, [(0, 0)]), (26, .iload_n 1, 27, 0, 0, 0, 0, []), (27, .iconst 1, 28, 0, 0, 0, 1, []), (28, .isub, 29, 0, 0, 0, 0, []), (29, .iaload, 30, 0, 0, 0, 0, []), (30, .istore_n 3, 31, 0, 0, 0, 0, []), (31, .aload_n 0, 32, 0, 0, 0, 0, []), (32, .getfield 25, 35, 7, 5, 0, 0, [(0, 0)]), (35, .iload_n 1, 36, 0, 0, 0, 0, []), (36, .iconst 1, 37, 0, 0, 0, 1, []), (37, .isub, 38, 0, 0, 0, 0, []), (38, .iaload, 39, 0, 0, 0, 0, []), (39, .istore 4, 41, 0, 0, 0, 0, []), (41, .iload 4, 43, 0, 0, 0, 0, []), (43, .aload_n 0, 44, 0, 0, 0, 0, []), (44, .getfield 7, 47, 7, 0, 0, 0, [(0, 0)]), (47, .iload_n 3, 48, 0, 0, 0, 0, []), (48, .invokestatic 39, 51, 98, 1, 0, 0, []), (51, .iconst 3, 52, 0, 0, 0, 3, []), (52, .iadd, 53, 0, 0, 0, 0, []), (53, .iaload, 54, 0, 0, 0, 0, []), (54, .if_icmp .ne 9, 57, 63, 0, 0, 0, []), (57, .iinc 1 (-1), 60, 0, 0, 0, -1, []), (60, .goto 73, 63, 133, 0, 0, 0, []), (63, .aload_n 0, 64, 0, 0, 0, 0, []), (64, .getfield 25, 67, 7, 5, 0, 0, [(0, 0)]), (67, .iload_n 1, 68, 0, 0, 0, 0, []), (68, .iconst 1, 69, 0, 0, 0, 1, []), (69, .isub, 70, 0, 0, 0, 0, []), (70, .dup2, 71, 0, 0, 0, 0, []), (71, .iaload, 72, 0, 0, 0, 0, []), (72, .iconst 1, 73, 0, 0, 0, 1, []), (73, .iadd, 74, 0, 0, 0, 0, []), (74, .iastore, 75, 0, 0, 0, 0, []), (75, .aload_n 0, 76, 0, 0, 0, 0, []), (76, .getfield 7, 79, 7, 0, 0, 0, [(0, 0)]), (79, .iload_n 3, 80, 0, 0, 0, 0, []), (80, .invokestatic 39, 83, 98, 1, 0, 0, []), (83, .iconst 4, 84, 0, 0, 0, 4, []), (84, .iadd, 85, 0, 0, 0, 0, []), (85, .iload 4, 87, 0, 0, 0, 0, []), (87, .iadd, 88, 0, 0, 0, 0, []), (88, .iaload, 89, 0, 0, 0, 0, []), (89, .istore 5, 91, 0, 0, 0, 0, []), (91, .iload 5, 93, 0, 0, 0, 0, []), (93, .bipush 100, 95, 0, 0, 0, 100, []), (95, .if_icmp .ge 17, 98, 112, 0, 0, 0, []), (98, .aload_n 0, 99, 0, 0, 0, 0, []), (99, .getfield 19, 102, 7, 3, 0, 0, [(0, 0)]), (102, .iload_n 2, 103, 0, 0, 0, 0, []), (103, .iload 5, 105, 0, 0, 0, 0, []), (105, .iastore, 106, 0, 0, 0, 0, []), (106, .iinc 2 1, 109, 0, 0, 0, 1, []), (109, .goto 24, 112, 133, 0, 0, 0, []), (112, .aload_n 0, 113, 0, 0, 0, 0, []), (113, .getfield 22, 116, 7, 4, 0, 0, [(0, 0)]), (116, .iload_n 1, 117, 0, 0, 0, 0, []), (117, .iload 5, 119, 0, 0, 0, 0, []), (119, .bipush 100, 121, 0, 0, 0, 100, []), (121, .isub, 122, 0, 0, 0, 0, []), (122, .iastore, 123, 0, 0, 0, 0, []), (123, .aload_n 0, 124, 0, 0, 0, 0, []), (124, .getfield 25, 127, 7, 5, 0, 0, [(0, 0)]), (127, .iload_n 1, 128, 0, 0, 0, 0, []), (128, .iconst 0, 129, 0, 0, 0, 0, []), (129, .iastore, 130, 0, 0, 0, 0, []), (130, .iinc 1 1, 133, 0, 0, 0, 1, []), (133, .goto (-115), 136, 18, 0, 0, 0, []), (136, .return_, 137, 0, 0, 0, 0, [])]
def tbX7_layOrder : Nat → pm_E := pm_lk ltX7_layOrder
theorem okX7_layOrder : ∀ pc, (tbX7_layOrder pc).1 = .nop ∨ pm_ok mX7_layOrder pw_Ms pc (tbX7_layOrder pc) := pm_lk_ok (by decide +kernel)
theorem nr_X7_layOrder : mX7_layOrder.2.2.2 = none := rfl
theorem tX7_layOrder_0 : tbX7_layOrder 0 = (.aload_n 0, 1, 0, 0, 0, 0, []) := rfl
theorem tX7_layOrder_1 : tbX7_layOrder 1 = (.getfield 22, 4, 7, 4, 0, 0, [(0, 0)]) := rfl
theorem tX7_layOrder_4 : tbX7_layOrder 4 = (.iconst 0, 5, 0, 0, 0, 0, []) := rfl
theorem tX7_layOrder_5 : tbX7_layOrder 5 = (.iconst 0, 6, 0, 0, 0, 0, []) := rfl
theorem tX7_layOrder_6 : tbX7_layOrder 6 = (.iastore, 7, 0, 0, 0, 0, []) := rfl
theorem tX7_layOrder_7 : tbX7_layOrder 7 = (.aload_n 0, 8, 0, 0, 0, 0, []) := rfl
theorem tX7_layOrder_8 : tbX7_layOrder 8 = (.getfield 25, 11, 7, 5, 0, 0, [(0, 0)]) := rfl
theorem tX7_layOrder_11 : tbX7_layOrder 11 = (.iconst 0, 12, 0, 0, 0, 0, []) := rfl
theorem tX7_layOrder_12 : tbX7_layOrder 12 = (.iconst 0, 13, 0, 0, 0, 0, []) := rfl
theorem tX7_layOrder_13 : tbX7_layOrder 13 = (.iastore, 14, 0, 0, 0, 0, []) := rfl
theorem tX7_layOrder_14 : tbX7_layOrder 14 = (.iconst 1, 15, 0, 0, 0, 1, []) := rfl
theorem tX7_layOrder_15 : tbX7_layOrder 15 = (.istore_n 1, 16, 0, 0, 0, 0, []) := rfl
theorem tX7_layOrder_16 : tbX7_layOrder 16 = (.iconst 0, 17, 0, 0, 0, 0, []) := rfl
theorem tX7_layOrder_17 : tbX7_layOrder 17 = (.istore_n 2, 18, 0, 0, 0, 0, []) := rfl
theorem tX7_layOrder_18 : tbX7_layOrder 18 = (.iload_n 1, 19, 0, 0, 0, 0, []) := rfl
theorem tX7_layOrder_19 : tbX7_layOrder 19 = (.ifCond .le 117, 22, 136, 0, 0, 0, []) := rfl
theorem tX7_layOrder_22 : tbX7_layOrder 22 = (.aload_n 0, 23, 0, 0, 0, 0, []) := rfl
theorem tX7_layOrder_23 : tbX7_layOrder 23 = (.getfield 22, 26, 7, 4, 0, 0, [(0, 0)]) := rfl
theorem tX7_layOrder_26 : tbX7_layOrder 26 = (.iload_n 1, 27, 0, 0, 0, 0, []) := rfl
theorem tX7_layOrder_27 : tbX7_layOrder 27 = (.iconst 1, 28, 0, 0, 0, 1, []) := rfl
theorem tX7_layOrder_28 : tbX7_layOrder 28 = (.isub, 29, 0, 0, 0, 0, []) := rfl
theorem tX7_layOrder_29 : tbX7_layOrder 29 = (.iaload, 30, 0, 0, 0, 0, []) := rfl
theorem tX7_layOrder_30 : tbX7_layOrder 30 = (.istore_n 3, 31, 0, 0, 0, 0, []) := rfl
theorem tX7_layOrder_31 : tbX7_layOrder 31 = (.aload_n 0, 32, 0, 0, 0, 0, []) := rfl
theorem tX7_layOrder_32 : tbX7_layOrder 32 = (.getfield 25, 35, 7, 5, 0, 0, [(0, 0)]) := rfl
theorem tX7_layOrder_35 : tbX7_layOrder 35 = (.iload_n 1, 36, 0, 0, 0, 0, []) := rfl
theorem tX7_layOrder_36 : tbX7_layOrder 36 = (.iconst 1, 37, 0, 0, 0, 1, []) := rfl
theorem tX7_layOrder_37 : tbX7_layOrder 37 = (.isub, 38, 0, 0, 0, 0, []) := rfl
theorem tX7_layOrder_38 : tbX7_layOrder 38 = (.iaload, 39, 0, 0, 0, 0, []) := rfl
theorem tX7_layOrder_39 : tbX7_layOrder 39 = (.istore 4, 41, 0, 0, 0, 0, []) := rfl
theorem tX7_layOrder_41 : tbX7_layOrder 41 = (.iload 4, 43, 0, 0, 0, 0, []) := rfl
theorem tX7_layOrder_43 : tbX7_layOrder 43 = (.aload_n 0, 44, 0, 0, 0, 0, []) := rfl
theorem tX7_layOrder_44 : tbX7_layOrder 44 = (.getfield 7, 47, 7, 0, 0, 0, [(0, 0)]) := rfl
theorem tX7_layOrder_47 : tbX7_layOrder 47 = (.iload_n 3, 48, 0, 0, 0, 0, []) := rfl
theorem tX7_layOrder_48 : tbX7_layOrder 48 = (.invokestatic 39, 51, 98, 1, 0, 0, []) := rfl
theorem tX7_layOrder_51 : tbX7_layOrder 51 = (.iconst 3, 52, 0, 0, 0, 3, []) := rfl
theorem tX7_layOrder_52 : tbX7_layOrder 52 = (.iadd, 53, 0, 0, 0, 0, []) := rfl
theorem tX7_layOrder_53 : tbX7_layOrder 53 = (.iaload, 54, 0, 0, 0, 0, []) := rfl
theorem tX7_layOrder_54 : tbX7_layOrder 54 = (.if_icmp .ne 9, 57, 63, 0, 0, 0, []) := rfl
theorem tX7_layOrder_57 : tbX7_layOrder 57 = (.iinc 1 (-1), 60, 0, 0, 0, -1, []) := rfl
theorem tX7_layOrder_60 : tbX7_layOrder 60 = (.goto 73, 63, 133, 0, 0, 0, []) := rfl
theorem tX7_layOrder_63 : tbX7_layOrder 63 = (.aload_n 0, 64, 0, 0, 0, 0, []) := rfl
theorem tX7_layOrder_64 : tbX7_layOrder 64 = (.getfield 25, 67, 7, 5, 0, 0, [(0, 0)]) := rfl
theorem tX7_layOrder_67 : tbX7_layOrder 67 = (.iload_n 1, 68, 0, 0, 0, 0, []) := rfl
theorem tX7_layOrder_68 : tbX7_layOrder 68 = (.iconst 1, 69, 0, 0, 0, 1, []) := rfl
theorem tX7_layOrder_69 : tbX7_layOrder 69 = (.isub, 70, 0, 0, 0, 0, []) := rfl
theorem tX7_layOrder_70 : tbX7_layOrder 70 = (.dup2, 71, 0, 0, 0, 0, []) := rfl
theorem tX7_layOrder_71 : tbX7_layOrder 71 = (.iaload, 72, 0, 0, 0, 0, []) := rfl
theorem tX7_layOrder_72 : tbX7_layOrder 72 = (.iconst 1, 73, 0, 0, 0, 1, []) := rfl
theorem tX7_layOrder_73 : tbX7_layOrder 73 = (.iadd, 74, 0, 0, 0, 0, []) := rfl
theorem tX7_layOrder_74 : tbX7_layOrder 74 = (.iastore, 75, 0, 0, 0, 0, []) := rfl
theorem tX7_layOrder_75 : tbX7_layOrder 75 = (.aload_n 0, 76, 0, 0, 0, 0, []) := rfl
theorem tX7_layOrder_76 : tbX7_layOrder 76 = (.getfield 7, 79, 7, 0, 0, 0, [(0, 0)]) := rfl
theorem tX7_layOrder_79 : tbX7_layOrder 79 = (.iload_n 3, 80, 0, 0, 0, 0, []) := rfl
theorem tX7_layOrder_80 : tbX7_layOrder 80 = (.invokestatic 39, 83, 98, 1, 0, 0, []) := rfl
theorem tX7_layOrder_83 : tbX7_layOrder 83 = (.iconst 4, 84, 0, 0, 0, 4, []) := rfl
theorem tX7_layOrder_84 : tbX7_layOrder 84 = (.iadd, 85, 0, 0, 0, 0, []) := rfl
theorem tX7_layOrder_85 : tbX7_layOrder 85 = (.iload 4, 87, 0, 0, 0, 0, []) := rfl
theorem tX7_layOrder_87 : tbX7_layOrder 87 = (.iadd, 88, 0, 0, 0, 0, []) := rfl
theorem tX7_layOrder_88 : tbX7_layOrder 88 = (.iaload, 89, 0, 0, 0, 0, []) := rfl
theorem tX7_layOrder_89 : tbX7_layOrder 89 = (.istore 5, 91, 0, 0, 0, 0, []) := rfl
theorem tX7_layOrder_91 : tbX7_layOrder 91 = (.iload 5, 93, 0, 0, 0, 0, []) := rfl
theorem tX7_layOrder_93 : tbX7_layOrder 93 = (.bipush 100, 95, 0, 0, 0, 100, []) := rfl
theorem tX7_layOrder_95 : tbX7_layOrder 95 = (.if_icmp .ge 17, 98, 112, 0, 0, 0, []) := rfl
theorem tX7_layOrder_98 : tbX7_layOrder 98 = (.aload_n 0, 99, 0, 0, 0, 0, []) := rfl
theorem tX7_layOrder_99 : tbX7_layOrder 99 = (.getfield 19, 102, 7, 3, 0, 0, [(0, 0)]) := rfl
theorem tX7_layOrder_102 : tbX7_layOrder 102 = (.iload_n 2, 103, 0, 0, 0, 0, []) := rfl
theorem tX7_layOrder_103 : tbX7_layOrder 103 = (.iload 5, 105, 0, 0, 0, 0, []) := rfl
theorem tX7_layOrder_105 : tbX7_layOrder 105 = (.iastore, 106, 0, 0, 0, 0, []) := rfl
theorem tX7_layOrder_106 : tbX7_layOrder 106 = (.iinc 2 1, 109, 0, 0, 0, 1, []) := rfl
theorem tX7_layOrder_109 : tbX7_layOrder 109 = (.goto 24, 112, 133, 0, 0, 0, []) := rfl
theorem tX7_layOrder_112 : tbX7_layOrder 112 = (.aload_n 0, 113, 0, 0, 0, 0, []) := rfl
theorem tX7_layOrder_113 : tbX7_layOrder 113 = (.getfield 22, 116, 7, 4, 0, 0, [(0, 0)]) := rfl
theorem tX7_layOrder_116 : tbX7_layOrder 116 = (.iload_n 1, 117, 0, 0, 0, 0, []) := rfl
theorem tX7_layOrder_117 : tbX7_layOrder 117 = (.iload 5, 119, 0, 0, 0, 0, []) := rfl
theorem tX7_layOrder_119 : tbX7_layOrder 119 = (.bipush 100, 121, 0, 0, 0, 100, []) := rfl
theorem tX7_layOrder_121 : tbX7_layOrder 121 = (.isub, 122, 0, 0, 0, 0, []) := rfl
theorem tX7_layOrder_122 : tbX7_layOrder 122 = (.iastore, 123, 0, 0, 0, 0, []) := rfl
theorem tX7_layOrder_123 : tbX7_layOrder 123 = (.aload_n 0, 124, 0, 0, 0, 0, []) := rfl
theorem tX7_layOrder_124 : tbX7_layOrder 124 = (.getfield 25, 127, 7, 5, 0, 0, [(0, 0)]) := rfl
theorem tX7_layOrder_127 : tbX7_layOrder 127 = (.iload_n 1, 128, 0, 0, 0, 0, []) := rfl
theorem tX7_layOrder_128 : tbX7_layOrder 128 = (.iconst 0, 129, 0, 0, 0, 0, []) := rfl
theorem tX7_layOrder_129 : tbX7_layOrder 129 = (.iastore, 130, 0, 0, 0, 0, []) := rfl
theorem tX7_layOrder_130 : tbX7_layOrder 130 = (.iinc 1 1, 133, 0, 0, 0, 1, []) := rfl
theorem tX7_layOrder_133 : tbX7_layOrder 133 = (.goto (-115), 136, 18, 0, 0, 0, []) := rfl
theorem tX7_layOrder_136 : tbX7_layOrder 136 = (.return_, 137, 0, 0, 0, 0, []) := rfl
def ltX7_nextLine : List (Nat × pm_E) := [(0, .aload_n 0, 1, 0, 0, 0, 0, []), (1, .invokevirtual 79, 4, 115, 0, 7, 0, []), (4, .iconst (-1), 5, 0, 0, 0, -1, []), (5, .istore_n 1, 6, 0, 0, 0, 0, []), (6, .iconst 0, 7, 0, 0, 0, 0, []), (7, .istore_n 2, 8, 0, 0, 0, 0, []), (8, .iload_n 2, 9, 0, 0, 0, 0, []), (9, .aload_n 0, 10, 0, 0, 0, 0, []), (10, .getfield 7, 13, 7, 0, 0, 0, [(0, 0)]), (13, .iconst 4, 14, 0, 0, 0, 4, []), (14, .iaload, 15, 0, 0, 0, 0, []), (15, .if_icmp .ge 77, 18, 92, 0, 0, 0, []), (18, .aload_n 0, 19, 0, 0, 0, 0, []), (19, .aload_n 0, 20, 0, 0, 0, 0, []), (20, .getfield 19, 23, 7, 3, 0, 0, [(0, 0)]), (23, .iload_n 2, 24, 0, 0, 0, 0, []), (24, .iaload, 25, 0, 0, 0, 0, []), (25, .invokevirtual 82, 28, 114, 1, 7, 0, []), (28, .ifCond .eq 41, 31, 69, 0, 0, 0, []), (31, .iload_n 1, 32, 0, 0, 0, 0, []), (32, .ifCond .lt 33, 35, 65, 0, 0, 0, []), (35, .aload_n 0, 36, 0, 0, 0, 0, []), (36, .getfield 7, 39, 7, 0, 0, 0, [(0, 0)]), (39, .aload_n 0, 40, 0, 0, 0, 0, []), (40, .getfield 19, 43, 7, 3, 0, 0, [(0, 0)]), (43, .iload_n 2, 44, 0, 0, 0, 0, []), (44, .iaload, 45, 0, 0, 0, 0, []), (45, .invokestatic 57, 48, 99, 1, 0, 0, []), (48, .iconst 1, 49, 0, 0, 0, 1, []), (49, .iadd, 50, 0, 0, 0, 0, []), (50, .iaload, 51, 0, 0, 0, 0, []), (51, .aload_n 0, 52, 0, 0, 0, 0, []), (52, .getfield 7, 55, 7, 0, 0, 0, [(0, 0)]), (55, .iload_n 1, 56, 0, 0, 0, 0, []), (56, .invokestatic 57, 59, 99, 1, 0, 0, []), (59, .iconst 1, 60, 0, 0, 0, 1, []), (60, .iadd, 61, 0, 0, 0, 0, []), (61, .iaload, 62, 0, 0, 0, 0, []), (62, .if_icmp .le 7, 65, 69, 0, 0, 0, []), (65, .iconst 1, 66, 0, 0, 0, 1, []), (66, .goto 4, 69, 70, 0, 0, 0, []), (69, .iconst 0, 70, 0, 0, 0, 0, []), (70, .istore_n 3, 71, 0, 0, 0, 0, []), (71, .iload_n 3, 72, 0, 0, 0, 0, []), (72, .ifCond .eq 12, 75, 84, 0, 0, 0, []), (75, .aload_n 0, 76, 0, 0, 0, 0, []), (76, .getfield 19, 79, 7, 3, 0, 0, [(0, 0)]), (79, .iload_n 2, 80, 0, 0, 0, 0, []), (80, .iaload, 81, 0, 0, 0, 0, []), (81, .goto 4, 84, 85, 0, 0, 0, []), (84, .iload_n 1, 85, 0, 0, 0, 0, []), (85, .istore_n 1, 86, 0, 0, 0, 0, []), (86, .iinc 2 1, 89, 0, 0, 0, 1, []), (89, .goto (-81), 92, 8, 0, 0, 0, []), (92, .iload_n 1, 93, 0, 0, 0, 0, []), (93, .ireturn, 94, 0, 0, 0, 0, [])]
def tbX7_nextLine : Nat → pm_E := pm_lk ltX7_nextLine
theorem okX7_nextLine : ∀ pc, (tbX7_nextLine pc).1 = .nop ∨ pm_ok mX7_nextLine pw_Ms pc (tbX7_nextLine pc) := pm_lk_ok (by decide +kernel)
theorem nr_X7_nextLine : mX7_nextLine.2.2.2 = (some .int) := rfl
theorem tX7_nextLine_0 : tbX7_nextLine 0 = (.aload_n 0, 1, 0, 0, 0, 0, []) := rfl
theorem tX7_nextLine_1 : tbX7_nextLine 1 = (.invokevirtual 79, 4, 115, 0, 7, 0, []) := rfl
theorem tX7_nextLine_4 : tbX7_nextLine 4 = (.iconst (-1), 5, 0, 0, 0, -1, []) := rfl
theorem tX7_nextLine_5 : tbX7_nextLine 5 = (.istore_n 1, 6, 0, 0, 0, 0, []) := rfl
theorem tX7_nextLine_6 : tbX7_nextLine 6 = (.iconst 0, 7, 0, 0, 0, 0, []) := rfl
theorem tX7_nextLine_7 : tbX7_nextLine 7 = (.istore_n 2, 8, 0, 0, 0, 0, []) := rfl
theorem tX7_nextLine_8 : tbX7_nextLine 8 = (.iload_n 2, 9, 0, 0, 0, 0, []) := rfl
theorem tX7_nextLine_9 : tbX7_nextLine 9 = (.aload_n 0, 10, 0, 0, 0, 0, []) := rfl
theorem tX7_nextLine_10 : tbX7_nextLine 10 = (.getfield 7, 13, 7, 0, 0, 0, [(0, 0)]) := rfl
theorem tX7_nextLine_13 : tbX7_nextLine 13 = (.iconst 4, 14, 0, 0, 0, 4, []) := rfl
theorem tX7_nextLine_14 : tbX7_nextLine 14 = (.iaload, 15, 0, 0, 0, 0, []) := rfl
theorem tX7_nextLine_15 : tbX7_nextLine 15 = (.if_icmp .ge 77, 18, 92, 0, 0, 0, []) := rfl
theorem tX7_nextLine_18 : tbX7_nextLine 18 = (.aload_n 0, 19, 0, 0, 0, 0, []) := rfl
theorem tX7_nextLine_19 : tbX7_nextLine 19 = (.aload_n 0, 20, 0, 0, 0, 0, []) := rfl
theorem tX7_nextLine_20 : tbX7_nextLine 20 = (.getfield 19, 23, 7, 3, 0, 0, [(0, 0)]) := rfl
theorem tX7_nextLine_23 : tbX7_nextLine 23 = (.iload_n 2, 24, 0, 0, 0, 0, []) := rfl
theorem tX7_nextLine_24 : tbX7_nextLine 24 = (.iaload, 25, 0, 0, 0, 0, []) := rfl
theorem tX7_nextLine_25 : tbX7_nextLine 25 = (.invokevirtual 82, 28, 114, 1, 7, 0, []) := rfl
theorem tX7_nextLine_28 : tbX7_nextLine 28 = (.ifCond .eq 41, 31, 69, 0, 0, 0, []) := rfl
theorem tX7_nextLine_31 : tbX7_nextLine 31 = (.iload_n 1, 32, 0, 0, 0, 0, []) := rfl
theorem tX7_nextLine_32 : tbX7_nextLine 32 = (.ifCond .lt 33, 35, 65, 0, 0, 0, []) := rfl
theorem tX7_nextLine_35 : tbX7_nextLine 35 = (.aload_n 0, 36, 0, 0, 0, 0, []) := rfl
theorem tX7_nextLine_36 : tbX7_nextLine 36 = (.getfield 7, 39, 7, 0, 0, 0, [(0, 0)]) := rfl
theorem tX7_nextLine_39 : tbX7_nextLine 39 = (.aload_n 0, 40, 0, 0, 0, 0, []) := rfl
theorem tX7_nextLine_40 : tbX7_nextLine 40 = (.getfield 19, 43, 7, 3, 0, 0, [(0, 0)]) := rfl
theorem tX7_nextLine_43 : tbX7_nextLine 43 = (.iload_n 2, 44, 0, 0, 0, 0, []) := rfl
theorem tX7_nextLine_44 : tbX7_nextLine 44 = (.iaload, 45, 0, 0, 0, 0, []) := rfl
theorem tX7_nextLine_45 : tbX7_nextLine 45 = (.invokestatic 57, 48, 99, 1, 0, 0, []) := rfl
theorem tX7_nextLine_48 : tbX7_nextLine 48 = (.iconst 1, 49, 0, 0, 0, 1, []) := rfl
theorem tX7_nextLine_49 : tbX7_nextLine 49 = (.iadd, 50, 0, 0, 0, 0, []) := rfl
theorem tX7_nextLine_50 : tbX7_nextLine 50 = (.iaload, 51, 0, 0, 0, 0, []) := rfl
theorem tX7_nextLine_51 : tbX7_nextLine 51 = (.aload_n 0, 52, 0, 0, 0, 0, []) := rfl
theorem tX7_nextLine_52 : tbX7_nextLine 52 = (.getfield 7, 55, 7, 0, 0, 0, [(0, 0)]) := rfl
theorem tX7_nextLine_55 : tbX7_nextLine 55 = (.iload_n 1, 56, 0, 0, 0, 0, []) := rfl
theorem tX7_nextLine_56 : tbX7_nextLine 56 = (.invokestatic 57, 59, 99, 1, 0, 0, []) := rfl
theorem tX7_nextLine_59 : tbX7_nextLine 59 = (.iconst 1, 60, 0, 0, 0, 1, []) := rfl
theorem tX7_nextLine_60 : tbX7_nextLine 60 = (.iadd, 61, 0, 0, 0, 0, []) := rfl
theorem tX7_nextLine_61 : tbX7_nextLine 61 = (.iaload, 62, 0, 0, 0, 0, []) := rfl
theorem tX7_nextLine_62 : tbX7_nextLine 62 = (.if_icmp .le 7, 65, 69, 0, 0, 0, []) := rfl
theorem tX7_nextLine_65 : tbX7_nextLine 65 = (.iconst 1, 66, 0, 0, 0, 1, []) := rfl
theorem tX7_nextLine_66 : tbX7_nextLine 66 = (.goto 4, 69, 70, 0, 0, 0, []) := rfl
theorem tX7_nextLine_69 : tbX7_nextLine 69 = (.iconst 0, 70, 0, 0, 0, 0, []) := rfl
theorem tX7_nextLine_70 : tbX7_nextLine 70 = (.istore_n 3, 71, 0, 0, 0, 0, []) := rfl
theorem tX7_nextLine_71 : tbX7_nextLine 71 = (.iload_n 3, 72, 0, 0, 0, 0, []) := rfl
theorem tX7_nextLine_72 : tbX7_nextLine 72 = (.ifCond .eq 12, 75, 84, 0, 0, 0, []) := rfl
theorem tX7_nextLine_75 : tbX7_nextLine 75 = (.aload_n 0, 76, 0, 0, 0, 0, []) := rfl
theorem tX7_nextLine_76 : tbX7_nextLine 76 = (.getfield 19, 79, 7, 3, 0, 0, [(0, 0)]) := rfl
theorem tX7_nextLine_79 : tbX7_nextLine 79 = (.iload_n 2, 80, 0, 0, 0, 0, []) := rfl
theorem tX7_nextLine_80 : tbX7_nextLine 80 = (.iaload, 81, 0, 0, 0, 0, []) := rfl
theorem tX7_nextLine_81 : tbX7_nextLine 81 = (.goto 4, 84, 85, 0, 0, 0, []) := rfl
theorem tX7_nextLine_84 : tbX7_nextLine 84 = (.iload_n 1, 85, 0, 0, 0, 0, []) := rfl
theorem tX7_nextLine_85 : tbX7_nextLine 85 = (.istore_n 1, 86, 0, 0, 0, 0, []) := rfl
theorem tX7_nextLine_86 : tbX7_nextLine 86 = (.iinc 2 1, 89, 0, 0, 0, 1, []) := rfl
theorem tX7_nextLine_89 : tbX7_nextLine 89 = (.goto (-81), 92, 8, 0, 0, 0, []) := rfl
theorem tX7_nextLine_92 : tbX7_nextLine 92 = (.iload_n 1, 93, 0, 0, 0, 0, []) := rfl
theorem tX7_nextLine_93 : tbX7_nextLine 93 = (.ireturn, 94, 0, 0, 0, 0, []) := rfl
def ltX7_turnBehind : List (Nat × pm_E) := [(0, .iload_n 1, 1, 0, 0, 0, 0, []), (1, .invokestatic 39, 4, 98, 1, 0, 0, []), (4, .iconst 4, 5, 0, 0, 0, 4, []), (5, .iadd, 6, 0, 0, 0, 0, []), (6, .istore_n 3, 7, 0, 0, 0, 0, []), (7, .iload_n 3, 8, 0, 0, 0, 0, []), (8, .aload_n 0, 9, 0, 0, 0, 0, []), (9, .getfield 7, 12, 7, 0, 0, 0, [(0, 0)]), (12, .iload_n 1, 13, 0, 0, 0, 0, []), (13, .invokestatic 39, 16, 98, 1, 0, 0, []), (16, .iconst 3, 17, 0, 0, 0, 3, []), (17, .iadd, 18, 0, 0, 0, 0, []), (18, .iaload, 19, 0, 0, 0, 0, []), (19, .iadd, 20, 0, 0, 0, 0, []), (20, .iconst 1, 21, 0, 0, 0, 1, []), (21, .isub, 22, 0, 0, 0, 0, []), (22, .istore 4, 24, 0, 0, 0, 0, []), (24, .aload_n 0, 25, 0, 0, 0, 0, []), (25, .getfield 7, 28, 7, 0, 0, 0, [(0, 0)]), (28, .iload_n 3, 29, 0, 0, 0, 0, []), (29, .iaload, 30, 0, 0, 0, 0, []), (30, .iload_n 2, 31, 0, 0, 0, 0, []), (31, .if_icmp .eq 9, 34, 40, 0, 0, 0, []), (34, .iinc 3 1, 37, 0, 0, 0, 1, []), (37, .goto (-13), 40, 24, 0, 0, 0, []), (40, .iload_n 3, 41, 0, 0, 0, 0, []), (41, .iload 4, 43, 0, 0, 0, 0, []), (43, .if_icmp .ge 23, 46, 66, 0, 0, 0, []), (46, .aload_n 0, 47, 0, 0, 0, 0, []), (47, .getfield 7, 50, 7, 0, 0, 0, [(0, 0)]), (50, .iload_n 3, 51, 0, 0, 0, 0, []), (51, .aload_n 0, 52, 0, 0, 0, 0, []), (52, .getfield 7, 55, 7, 0, 0, 0, [(0, 0)]), (55, .iload_n 3, 56, 0, 0, 0, 0, []), (56, .iconst 1, 57, 0, 0, 0, 1, []), (57, .iadd, 58, 0, 0, 0, 0, []), (58, .iaload, 59, 0, 0, 0, 0, []), (59, .iastore, 60, 0, 0, 0, 0, []), (60, .iinc 3 1, 63, 0, 0, 0, 1, []), (63, .goto (-23), 66, 40, 0, 0, 0, []), (66, .aload_n 0, 67, 0, 0, 0, 0, []), (67, .getfield 7, 70, 7, 0, 0, 0, [(0, 0)]), (70, .iload 4, 72, 0, 0, 0, 0, []), (72, .iload_n 2, 73, 0, 0, 0, 0, []), (73, .iastore, 74, 0, 0, 0, 0, []), (74, .return_, 75, 0, 0, 0, 0, [])]
def tbX7_turnBehind : Nat → pm_E := pm_lk ltX7_turnBehind
theorem okX7_turnBehind : ∀ pc, (tbX7_turnBehind pc).1 = .nop ∨ pm_ok mX7_turnBehind pw_Ms pc (tbX7_turnBehind pc) := pm_lk_ok (by decide +kernel)
theorem nr_X7_turnBehind : mX7_turnBehind.2.2.2 = none := rfl
theorem tX7_turnBehind_0 : tbX7_turnBehind 0 = (.iload_n 1, 1, 0, 0, 0, 0, []) := rfl
theorem tX7_turnBehind_1 : tbX7_turnBehind 1 = (.invokestatic 39, 4, 98, 1, 0, 0, []) := rfl
theorem tX7_turnBehind_4 : tbX7_turnBehind 4 = (.iconst 4, 5, 0, 0, 0, 4, []) := rfl
theorem tX7_turnBehind_5 : tbX7_turnBehind 5 = (.iadd, 6, 0, 0, 0, 0, []) := rfl
theorem tX7_turnBehind_6 : tbX7_turnBehind 6 = (.istore_n 3, 7, 0, 0, 0, 0, []) := rfl
theorem tX7_turnBehind_7 : tbX7_turnBehind 7 = (.iload_n 3, 8, 0, 0, 0, 0, []) := rfl
theorem tX7_turnBehind_8 : tbX7_turnBehind 8 = (.aload_n 0, 9, 0, 0, 0, 0, []) := rfl
theorem tX7_turnBehind_9 : tbX7_turnBehind 9 = (.getfield 7, 12, 7, 0, 0, 0, [(0, 0)]) := rfl
theorem tX7_turnBehind_12 : tbX7_turnBehind 12 = (.iload_n 1, 13, 0, 0, 0, 0, []) := rfl
theorem tX7_turnBehind_13 : tbX7_turnBehind 13 = (.invokestatic 39, 16, 98, 1, 0, 0, []) := rfl
theorem tX7_turnBehind_16 : tbX7_turnBehind 16 = (.iconst 3, 17, 0, 0, 0, 3, []) := rfl
theorem tX7_turnBehind_17 : tbX7_turnBehind 17 = (.iadd, 18, 0, 0, 0, 0, []) := rfl
theorem tX7_turnBehind_18 : tbX7_turnBehind 18 = (.iaload, 19, 0, 0, 0, 0, []) := rfl
theorem tX7_turnBehind_19 : tbX7_turnBehind 19 = (.iadd, 20, 0, 0, 0, 0, []) := rfl
theorem tX7_turnBehind_20 : tbX7_turnBehind 20 = (.iconst 1, 21, 0, 0, 0, 1, []) := rfl
theorem tX7_turnBehind_21 : tbX7_turnBehind 21 = (.isub, 22, 0, 0, 0, 0, []) := rfl
theorem tX7_turnBehind_22 : tbX7_turnBehind 22 = (.istore 4, 24, 0, 0, 0, 0, []) := rfl
theorem tX7_turnBehind_24 : tbX7_turnBehind 24 = (.aload_n 0, 25, 0, 0, 0, 0, []) := rfl
theorem tX7_turnBehind_25 : tbX7_turnBehind 25 = (.getfield 7, 28, 7, 0, 0, 0, [(0, 0)]) := rfl
theorem tX7_turnBehind_28 : tbX7_turnBehind 28 = (.iload_n 3, 29, 0, 0, 0, 0, []) := rfl
theorem tX7_turnBehind_29 : tbX7_turnBehind 29 = (.iaload, 30, 0, 0, 0, 0, []) := rfl
theorem tX7_turnBehind_30 : tbX7_turnBehind 30 = (.iload_n 2, 31, 0, 0, 0, 0, []) := rfl
theorem tX7_turnBehind_31 : tbX7_turnBehind 31 = (.if_icmp .eq 9, 34, 40, 0, 0, 0, []) := rfl
theorem tX7_turnBehind_34 : tbX7_turnBehind 34 = (.iinc 3 1, 37, 0, 0, 0, 1, []) := rfl
theorem tX7_turnBehind_37 : tbX7_turnBehind 37 = (.goto (-13), 40, 24, 0, 0, 0, []) := rfl
theorem tX7_turnBehind_40 : tbX7_turnBehind 40 = (.iload_n 3, 41, 0, 0, 0, 0, []) := rfl
theorem tX7_turnBehind_41 : tbX7_turnBehind 41 = (.iload 4, 43, 0, 0, 0, 0, []) := rfl
theorem tX7_turnBehind_43 : tbX7_turnBehind 43 = (.if_icmp .ge 23, 46, 66, 0, 0, 0, []) := rfl
theorem tX7_turnBehind_46 : tbX7_turnBehind 46 = (.aload_n 0, 47, 0, 0, 0, 0, []) := rfl
theorem tX7_turnBehind_47 : tbX7_turnBehind 47 = (.getfield 7, 50, 7, 0, 0, 0, [(0, 0)]) := rfl
theorem tX7_turnBehind_50 : tbX7_turnBehind 50 = (.iload_n 3, 51, 0, 0, 0, 0, []) := rfl
theorem tX7_turnBehind_51 : tbX7_turnBehind 51 = (.aload_n 0, 52, 0, 0, 0, 0, []) := rfl
theorem tX7_turnBehind_52 : tbX7_turnBehind 52 = (.getfield 7, 55, 7, 0, 0, 0, [(0, 0)]) := rfl
theorem tX7_turnBehind_55 : tbX7_turnBehind 55 = (.iload_n 3, 56, 0, 0, 0, 0, []) := rfl
theorem tX7_turnBehind_56 : tbX7_turnBehind 56 = (.iconst 1, 57, 0, 0, 0, 1, []) := rfl
theorem tX7_turnBehind_57 : tbX7_turnBehind 57 = (.iadd, 58, 0, 0, 0, 0, []) := rfl
theorem tX7_turnBehind_58 : tbX7_turnBehind 58 = (.iaload, 59, 0, 0, 0, 0, []) := rfl
theorem tX7_turnBehind_59 : tbX7_turnBehind 59 = (.iastore, 60, 0, 0, 0, 0, []) := rfl
theorem tX7_turnBehind_60 : tbX7_turnBehind 60 = (.iinc 3 1, 63, 0, 0, 0, 1, []) := rfl
theorem tX7_turnBehind_63 : tbX7_turnBehind 63 = (.goto (-23), 66, 40, 0, 0, 0, []) := rfl
theorem tX7_turnBehind_66 : tbX7_turnBehind 66 = (.aload_n 0, 67, 0, 0, 0, 0, []) := rfl
theorem tX7_turnBehind_67 : tbX7_turnBehind 67 = (.getfield 7, 70, 7, 0, 0, 0, [(0, 0)]) := rfl
theorem tX7_turnBehind_70 : tbX7_turnBehind 70 = (.iload 4, 72, 0, 0, 0, 0, []) := rfl
theorem tX7_turnBehind_72 : tbX7_turnBehind 72 = (.iload_n 2, 73, 0, 0, 0, 0, []) := rfl
theorem tX7_turnBehind_73 : tbX7_turnBehind 73 = (.iastore, 74, 0, 0, 0, 0, []) := rfl
theorem tX7_turnBehind_74 : tbX7_turnBehind 74 = (.return_, 75, 0, 0, 0, 0, []) := rfl
def ltX7_turnWay : List (Nat × pm_E) := [(0, .iload_n 1, 1, 0, 0, 0, 0, []), (1, .istore_n 2, 2, 0, 0, 0, 0, []), (2, .aload_n 0, 3, 0, 0, 0, 0, []), (3, .getfield 7, 6, 7, 0, 0, 0, [(0, 0)]), (6, .iload_n 1, 7, 0, 0, 0, 0, []), (7, .invokestatic 57, 10, 99, 1, 0, 0, []), (10, .iconst 0, 11, 0, 0, 0, 0, []), (11, .iadd, 12, 0, 0, 0, 0, []), (12, .iaload, 13, 0, 0, 0, 0, []), (13, .istore_n 3, 14, 0, 0, 0, 0, []), (14, .iload_n 3, 15, 0, 0, 0, 0, []), (15, .ifCond .lt 44, 18, 59, 0, 0, 0, []), (18, .aload_n 0, 19, 0, 0, 0, 0, []), (19, .getfield 7, 22, 7, 0, 0, 0, [(0, 0)]), (22, .iload_n 3, 23, 0, 0, 0, 0, []), (23, .invokestatic 39, 26, 98, 1, 0, 0, []), (26, .iconst 1, 27, 0, 0, 0, 1, []), (27, .iadd, 28, 0, 0, 0, 0, []), (28, .iaload, 29, 0, 0, 0, 0, []), (29, .iconst 1, 30, 0, 0, 0, 1, []), (30, .if_icmp .ne 9, 33, 39, 0, 0, 0, []), (33, .aload_n 0, 34, 0, 0, 0, 0, []), (34, .iload_n 3, 35, 0, 0, 0, 0, []), (35, .iload_n 2, 36, 0, 0, 0, 0, []), (36, .invokevirtual 85, 39, 117, 2, 7, 0, []), (39, .bipush 100, 41, 0, 0, 0, 100, []), (41, .iload_n 3, 42, 0, 0, 0, 0, []), (42, .iadd, 43, 0, 0, 0, 0, []), (43, .istore_n 2, 44, 0, 0, 0, 0, []), (44, .aload_n 0, 45, 0, 0, 0, 0, []), (45, .getfield 7, 48, 7, 0, 0, 0, [(0, 0)]), (48, .iload_n 3, 49, 0, 0, 0, 0, []), (49, .invokestatic 39, 52, 98, 1, 0, 0, []), (52, .iconst 0, 53, 0, 0, 0, 0, []), (53, .iadd, 54, 0, 0, 0, 0, []), (54, .iaload, 55, 0, 0, 0, 0, []), (55, .istore_n 3, 56, 0, 0, 0, 0, []), (56, .goto (-42), 59, 14, 0, 0, 0, []), (59, .return_, 60, 0, 0, 0, 0, [])]
def tbX7_turnWay : Nat → pm_E := pm_lk ltX7_turnWay
theorem okX7_turnWay : ∀ pc, (tbX7_turnWay pc).1 = .nop ∨ pm_ok mX7_turnWay pw_Ms pc (tbX7_turnWay pc) := pm_lk_ok (by decide +kernel)
theorem nr_X7_turnWay : mX7_turnWay.2.2.2 = none := rfl
theorem tX7_turnWay_0 : tbX7_turnWay 0 = (.iload_n 1, 1, 0, 0, 0, 0, []) := rfl
theorem tX7_turnWay_1 : tbX7_turnWay 1 = (.istore_n 2, 2, 0, 0, 0, 0, []) := rfl
theorem tX7_turnWay_2 : tbX7_turnWay 2 = (.aload_n 0, 3, 0, 0, 0, 0, []) := rfl
theorem tX7_turnWay_3 : tbX7_turnWay 3 = (.getfield 7, 6, 7, 0, 0, 0, [(0, 0)]) := rfl
theorem tX7_turnWay_6 : tbX7_turnWay 6 = (.iload_n 1, 7, 0, 0, 0, 0, []) := rfl
theorem tX7_turnWay_7 : tbX7_turnWay 7 = (.invokestatic 57, 10, 99, 1, 0, 0, []) := rfl
theorem tX7_turnWay_10 : tbX7_turnWay 10 = (.iconst 0, 11, 0, 0, 0, 0, []) := rfl
theorem tX7_turnWay_11 : tbX7_turnWay 11 = (.iadd, 12, 0, 0, 0, 0, []) := rfl
theorem tX7_turnWay_12 : tbX7_turnWay 12 = (.iaload, 13, 0, 0, 0, 0, []) := rfl
theorem tX7_turnWay_13 : tbX7_turnWay 13 = (.istore_n 3, 14, 0, 0, 0, 0, []) := rfl
theorem tX7_turnWay_14 : tbX7_turnWay 14 = (.iload_n 3, 15, 0, 0, 0, 0, []) := rfl
theorem tX7_turnWay_15 : tbX7_turnWay 15 = (.ifCond .lt 44, 18, 59, 0, 0, 0, []) := rfl
theorem tX7_turnWay_18 : tbX7_turnWay 18 = (.aload_n 0, 19, 0, 0, 0, 0, []) := rfl
theorem tX7_turnWay_19 : tbX7_turnWay 19 = (.getfield 7, 22, 7, 0, 0, 0, [(0, 0)]) := rfl
theorem tX7_turnWay_22 : tbX7_turnWay 22 = (.iload_n 3, 23, 0, 0, 0, 0, []) := rfl
theorem tX7_turnWay_23 : tbX7_turnWay 23 = (.invokestatic 39, 26, 98, 1, 0, 0, []) := rfl
theorem tX7_turnWay_26 : tbX7_turnWay 26 = (.iconst 1, 27, 0, 0, 0, 1, []) := rfl
theorem tX7_turnWay_27 : tbX7_turnWay 27 = (.iadd, 28, 0, 0, 0, 0, []) := rfl
theorem tX7_turnWay_28 : tbX7_turnWay 28 = (.iaload, 29, 0, 0, 0, 0, []) := rfl
theorem tX7_turnWay_29 : tbX7_turnWay 29 = (.iconst 1, 30, 0, 0, 0, 1, []) := rfl
theorem tX7_turnWay_30 : tbX7_turnWay 30 = (.if_icmp .ne 9, 33, 39, 0, 0, 0, []) := rfl
theorem tX7_turnWay_33 : tbX7_turnWay 33 = (.aload_n 0, 34, 0, 0, 0, 0, []) := rfl
theorem tX7_turnWay_34 : tbX7_turnWay 34 = (.iload_n 3, 35, 0, 0, 0, 0, []) := rfl
theorem tX7_turnWay_35 : tbX7_turnWay 35 = (.iload_n 2, 36, 0, 0, 0, 0, []) := rfl
theorem tX7_turnWay_36 : tbX7_turnWay 36 = (.invokevirtual 85, 39, 117, 2, 7, 0, []) := rfl
theorem tX7_turnWay_39 : tbX7_turnWay 39 = (.bipush 100, 41, 0, 0, 0, 100, []) := rfl
theorem tX7_turnWay_41 : tbX7_turnWay 41 = (.iload_n 3, 42, 0, 0, 0, 0, []) := rfl
theorem tX7_turnWay_42 : tbX7_turnWay 42 = (.iadd, 43, 0, 0, 0, 0, []) := rfl
theorem tX7_turnWay_43 : tbX7_turnWay 43 = (.istore_n 2, 44, 0, 0, 0, 0, []) := rfl
theorem tX7_turnWay_44 : tbX7_turnWay 44 = (.aload_n 0, 45, 0, 0, 0, 0, []) := rfl
theorem tX7_turnWay_45 : tbX7_turnWay 45 = (.getfield 7, 48, 7, 0, 0, 0, [(0, 0)]) := rfl
theorem tX7_turnWay_48 : tbX7_turnWay 48 = (.iload_n 3, 49, 0, 0, 0, 0, []) := rfl
theorem tX7_turnWay_49 : tbX7_turnWay 49 = (.invokestatic 39, 52, 98, 1, 0, 0, []) := rfl
theorem tX7_turnWay_52 : tbX7_turnWay 52 = (.iconst 0, 53, 0, 0, 0, 0, []) := rfl
theorem tX7_turnWay_53 : tbX7_turnWay 53 = (.iadd, 54, 0, 0, 0, 0, []) := rfl
theorem tX7_turnWay_54 : tbX7_turnWay 54 = (.iaload, 55, 0, 0, 0, 0, []) := rfl
theorem tX7_turnWay_55 : tbX7_turnWay 55 = (.istore_n 3, 56, 0, 0, 0, 0, []) := rfl
theorem tX7_turnWay_56 : tbX7_turnWay 56 = (.goto (-42), 59, 14, 0, 0, 0, []) := rfl
theorem tX7_turnWay_59 : tbX7_turnWay 59 = (.return_, 60, 0, 0, 0, 0, []) := rfl
def ltX7_goTake : List (Nat × pm_E) := [(0, .iload_n 1, 1, 0, 0, 0, 0, []), (1, .invokestatic 57, 4, 99, 1, 0, 0, []), (4, .istore_n 2, 5, 0, 0, 0, 0, []), (5, .aload_n 0, 6, 0, 0, 0, 0, []), (6, .getfield 7, 9, 7, 0, 0, 0, [(0, 0)]), (9, .bipush 11, 11, 0, 0, 0, 11, []), (11, .aload_n 0, 12, 0, 0, 0, 0, []), (12, .getfield 7, 15, 7, 0, 0, 0, [(0, 0)]), (15, .bipush 10, 17, 0, 0, 0, 10, []), (17, .iaload, 18, 0, 0, 0, 0, []), (18, .iadd, 19, 0, 0, 0, 0, []), (19, .iload_n 1, 20, 0, 0, 0, 0, []), (20, .iastore, 21, 0, 0, 0, 0, []), (21, .aload_n 0, 22, 0, 0, 0, 0, []), (22, .getfield 7, 25, 7, 0, 0, 0, [(0, 0)]), (25, .bipush 10, 27, 0, 0, 0, 10, []), (27, .dup2, 28, 0, 0, 0, 0, []), (28, .iaload, 29, 0, 0, 0, 0, []), (29, .iconst 1, 30, 0, 0, 0, 1, []), (30, .iadd, 31, 0, 0, 0, 0, []), (31, .iastore, 32, 0, 0, 0, 0, []), (32, .aload_n 0, 33, 0, 0, 0, 0, []), (33, .getfield 7, 36, 7, 0, 0, 0, [(0, 0)]), (36, .iload_n 2, 37, 0, 0, 0, 0, []), (37, .iconst 4, 38, 0, 0, 0, 4, []), (38, .iadd, 39, 0, 0, 0, 0, []), (39, .iconst 1, 40, 0, 0, 0, 1, []), (40, .iastore, 41, 0, 0, 0, 0, []), (41, .aload_n 0, 42, 0, 0, 0, 0, []), (42, .getfield 7, 45, 7, 0, 0, 0, [(0, 0)]), (45, .iload_n 2, 46, 0, 0, 0, 0, []), (46, .bipush 8, 48, 0, 0, 0, 8, []), (48, .iadd, 49, 0, 0, 0, 0, []), (49, .dup2, 50, 0, 0, 0, 0, []), (50, .iaload, 51, 0, 0, 0, 0, []), (51, .iconst 1, 52, 0, 0, 0, 1, []), (52, .iadd, 53, 0, 0, 0, 0, []), (53, .iastore, 54, 0, 0, 0, 0, []), (54, .aload_n 0, 55, 0, 0, 0, 0, []), (55, .getfield 7, 58, 7, 0, 0, 0, [(0, 0)]), (58, .iload_n 2, 59, 0, 0, 0, 0, []), (59, .iconst 2, 60, 0, 0, 0, 2, []), (60, .iadd, 61, 0, 0, 0, 0, []), (61, .iaload, 62, 0, 0, 0, 0, []), (62, .ifCond .ne 78, 65, 140, 0, 0, 0, []), (65, .aload_n 0, 66, 0, 0, 0, 0, []), (66, .getfield 7, 69, 7, 0, 0, 0, [(0, 0)]), (69, .iconst 0, 70, 0, 0, 0, 0, []), (70, .iaload, 71, 0, 0, 0, 0, []), (71, .aload_n 0, 72, 0, 0, 0, 0, []), (72, .getfield 7, 75, 7, 0, 0, 0, [(0, 0)]), (75, .iload_n 2, 76, 0, 0, 0, 0, []), (76, .bipush 10, 78, 0, 0, 0, 10, []), (78, .iadd, 79, 0, 0, 0, 0, []), (79, .iaload, 80, 0, 0, 0, 0, []), (80, .isub, 81, 0, 0, 0, 0, []), (81, .istore_n 3, 82, 0, 0, 0, 0, []), (82, .aload_n 0, 83, 0, 0, 0, 0, []), (83, .getfield 7, 86, 7, 0, 0, 0, [(0, 0)]), (86, .iload_n 2, 87, 0, 0, 0, 0, []), (87, .iconst 3, 88, 0, 0, 0, 3, []), (88, .iadd, 89, 0, 0, 0, 0, []), (89, .iconst 0, 90, 0, 0, 0, 0, []), (90, .iastore, 91, 0, 0, 0, 0, []), (91, .aload_n 0, 92, 0, 0, 0, 0, []), (92, .getfield 7, 95, 7, 0, 0, 0, [(0, 0)]), (95, .iload_n 2, 96, 0, 0, 0, 0, []), (96, .bipush 9, 98, 0, 0, 0, 9, []), (98, .iadd, 99, 0, 0, 0, 0, []), (99, .iload_n 3, 100, 0, 0, 0, 0, []), (100, .aload_n 0, 101, 0, 0, 0, 0, []), (101, .getfield 7, 104, 7, 0, 0, 0, [(0, 0)]), (104, .iload_n 2, 105, 0, 0, 0, 0, []), (105, .bipush 9, 107, 0, 0, 0, 9, []), (107, .iadd, 108, 0, 0, 0, 0, []), (108, .iaload, 109, 0, 0, 0, 0, []), (109, .if_icmp .le 7, 112, 116, 0, 0, 0, []), (112, .iload_n 3, 113, 0, 0, 0, 0, []), (113, .goto 12, 116, 125, 0, 0, 0, []), (116, .aload_n 0, 117, 0, 0, 0, 0, []), (117, .getfield 7, 120, 7, 0, 0, 0, [(0, 0)]), (120, .iload_n 2, 121, 0, 0, 0, 0, []), (121, .bipush 9, 123, 0, 0, 0, 9, []), (123, .iadd, 124, 0, 0, 0, 0, []), (124, .iaload, 125, 0, 0, 0, 0, []), (125, .iastore, 126, 0, 0, 0, 0, []), (126, .aload_n 0, 127, 0, 0, 0, 0, []), (127, .getfield 7, 130, 7, 0, 0, 0, [(0, 0)]), (130, .bipush 7, 132, 0, 0, 0, 7, []), (132, .dup2, 133, 0, 0, 0, 0, []), (133, .iaload, 134, 0, 0, 0, 0, []), (134, .iconst 1, 135, 0, 0, 0, 1, []), (135, .iadd, 136, 0, 0, 0, 0, []), (136, .iastore, 137, 0, 0, 0, 0, []), (137, .goto 14, 140, 151, 0, 0, 0, []), (140, .aload_n 0, 141, 0, 0, 0, 0, []), (141, .getfield 7, 144, 7, 0, 0, 0, [(0, 0)]), (144, .bipush 8, 146, 0, 0, 0, 8, []), (146, .dup2, 147, 0, 0, 0, 0, []), (147, .iaload, 148, 0, 0, 0, 0, []), (148, .iconst 1, 149, 0, 0, 0, 1, []), (149, .iadd, 150, 0, 0, 0, 0, []), (150, .iastore, 151, 0, 0, 0, 0, []), (151, .aload_n 0, 152, 0, 0, 0, 0, []), (152, .iload_n 1, 153, 0, 0, 0, 0, []), (153, .invokevirtual 88, 156, 118, 1, 7, 0, []), (156, .return_, 157, 0, 0, 0, 0, [])]
def tbX7_goTake : Nat → pm_E := pm_lk ltX7_goTake
theorem okX7_goTake : ∀ pc, (tbX7_goTake pc).1 = .nop ∨ pm_ok mX7_goTake pw_Ms pc (tbX7_goTake pc) := pm_lk_ok (by decide +kernel)
theorem nr_X7_goTake : mX7_goTake.2.2.2 = none := rfl
set_option maxRecDepth 20000 in
theorem tX7_goTake_0 : tbX7_goTake 0 = (.iload_n 1, 1, 0, 0, 0, 0, []) := rfl
set_option maxRecDepth 20000 in
theorem tX7_goTake_1 : tbX7_goTake 1 = (.invokestatic 57, 4, 99, 1, 0, 0, []) := rfl
set_option maxRecDepth 20000 in
theorem tX7_goTake_4 : tbX7_goTake 4 = (.istore_n 2, 5, 0, 0, 0, 0, []) := rfl
set_option maxRecDepth 20000 in
theorem tX7_goTake_5 : tbX7_goTake 5 = (.aload_n 0, 6, 0, 0, 0, 0, []) := rfl
set_option maxRecDepth 20000 in
theorem tX7_goTake_6 : tbX7_goTake 6 = (.getfield 7, 9, 7, 0, 0, 0, [(0, 0)]) := rfl
set_option maxRecDepth 20000 in
theorem tX7_goTake_9 : tbX7_goTake 9 = (.bipush 11, 11, 0, 0, 0, 11, []) := rfl
set_option maxRecDepth 20000 in
theorem tX7_goTake_11 : tbX7_goTake 11 = (.aload_n 0, 12, 0, 0, 0, 0, []) := rfl
set_option maxRecDepth 20000 in
theorem tX7_goTake_12 : tbX7_goTake 12 = (.getfield 7, 15, 7, 0, 0, 0, [(0, 0)]) := rfl
set_option maxRecDepth 20000 in
theorem tX7_goTake_15 : tbX7_goTake 15 = (.bipush 10, 17, 0, 0, 0, 10, []) := rfl
set_option maxRecDepth 20000 in
theorem tX7_goTake_17 : tbX7_goTake 17 = (.iaload, 18, 0, 0, 0, 0, []) := rfl
set_option maxRecDepth 20000 in
theorem tX7_goTake_18 : tbX7_goTake 18 = (.iadd, 19, 0, 0, 0, 0, []) := rfl
set_option maxRecDepth 20000 in
theorem tX7_goTake_19 : tbX7_goTake 19 = (.iload_n 1, 20, 0, 0, 0, 0, []) := rfl
set_option maxRecDepth 20000 in
theorem tX7_goTake_20 : tbX7_goTake 20 = (.iastore, 21, 0, 0, 0, 0, []) := rfl
set_option maxRecDepth 20000 in
theorem tX7_goTake_21 : tbX7_goTake 21 = (.aload_n 0, 22, 0, 0, 0, 0, []) := rfl
set_option maxRecDepth 20000 in
theorem tX7_goTake_22 : tbX7_goTake 22 = (.getfield 7, 25, 7, 0, 0, 0, [(0, 0)]) := rfl
set_option maxRecDepth 20000 in
theorem tX7_goTake_25 : tbX7_goTake 25 = (.bipush 10, 27, 0, 0, 0, 10, []) := rfl
set_option maxRecDepth 20000 in
theorem tX7_goTake_27 : tbX7_goTake 27 = (.dup2, 28, 0, 0, 0, 0, []) := rfl
set_option maxRecDepth 20000 in
theorem tX7_goTake_28 : tbX7_goTake 28 = (.iaload, 29, 0, 0, 0, 0, []) := rfl
set_option maxRecDepth 20000 in
theorem tX7_goTake_29 : tbX7_goTake 29 = (.iconst 1, 30, 0, 0, 0, 1, []) := rfl
set_option maxRecDepth 20000 in
theorem tX7_goTake_30 : tbX7_goTake 30 = (.iadd, 31, 0, 0, 0, 0, []) := rfl
set_option maxRecDepth 20000 in
theorem tX7_goTake_31 : tbX7_goTake 31 = (.iastore, 32, 0, 0, 0, 0, []) := rfl
set_option maxRecDepth 20000 in
theorem tX7_goTake_32 : tbX7_goTake 32 = (.aload_n 0, 33, 0, 0, 0, 0, []) := rfl
set_option maxRecDepth 20000 in
theorem tX7_goTake_33 : tbX7_goTake 33 = (.getfield 7, 36, 7, 0, 0, 0, [(0, 0)]) := rfl
set_option maxRecDepth 20000 in
theorem tX7_goTake_36 : tbX7_goTake 36 = (.iload_n 2, 37, 0, 0, 0, 0, []) := rfl
set_option maxRecDepth 20000 in
theorem tX7_goTake_37 : tbX7_goTake 37 = (.iconst 4, 38, 0, 0, 0, 4, []) := rfl
set_option maxRecDepth 20000 in
theorem tX7_goTake_38 : tbX7_goTake 38 = (.iadd, 39, 0, 0, 0, 0, []) := rfl
set_option maxRecDepth 20000 in
theorem tX7_goTake_39 : tbX7_goTake 39 = (.iconst 1, 40, 0, 0, 0, 1, []) := rfl
set_option maxRecDepth 20000 in
theorem tX7_goTake_40 : tbX7_goTake 40 = (.iastore, 41, 0, 0, 0, 0, []) := rfl
set_option maxRecDepth 20000 in
theorem tX7_goTake_41 : tbX7_goTake 41 = (.aload_n 0, 42, 0, 0, 0, 0, []) := rfl
set_option maxRecDepth 20000 in
theorem tX7_goTake_42 : tbX7_goTake 42 = (.getfield 7, 45, 7, 0, 0, 0, [(0, 0)]) := rfl
set_option maxRecDepth 20000 in
theorem tX7_goTake_45 : tbX7_goTake 45 = (.iload_n 2, 46, 0, 0, 0, 0, []) := rfl
set_option maxRecDepth 20000 in
theorem tX7_goTake_46 : tbX7_goTake 46 = (.bipush 8, 48, 0, 0, 0, 8, []) := rfl
set_option maxRecDepth 20000 in
theorem tX7_goTake_48 : tbX7_goTake 48 = (.iadd, 49, 0, 0, 0, 0, []) := rfl
set_option maxRecDepth 20000 in
theorem tX7_goTake_49 : tbX7_goTake 49 = (.dup2, 50, 0, 0, 0, 0, []) := rfl
set_option maxRecDepth 20000 in
theorem tX7_goTake_50 : tbX7_goTake 50 = (.iaload, 51, 0, 0, 0, 0, []) := rfl
set_option maxRecDepth 20000 in
theorem tX7_goTake_51 : tbX7_goTake 51 = (.iconst 1, 52, 0, 0, 0, 1, []) := rfl
set_option maxRecDepth 20000 in
theorem tX7_goTake_52 : tbX7_goTake 52 = (.iadd, 53, 0, 0, 0, 0, []) := rfl
set_option maxRecDepth 20000 in
theorem tX7_goTake_53 : tbX7_goTake 53 = (.iastore, 54, 0, 0, 0, 0, []) := rfl
set_option maxRecDepth 20000 in
theorem tX7_goTake_54 : tbX7_goTake 54 = (.aload_n 0, 55, 0, 0, 0, 0, []) := rfl
set_option maxRecDepth 20000 in
theorem tX7_goTake_55 : tbX7_goTake 55 = (.getfield 7, 58, 7, 0, 0, 0, [(0, 0)]) := rfl
set_option maxRecDepth 20000 in
theorem tX7_goTake_58 : tbX7_goTake 58 = (.iload_n 2, 59, 0, 0, 0, 0, []) := rfl
set_option maxRecDepth 20000 in
theorem tX7_goTake_59 : tbX7_goTake 59 = (.iconst 2, 60, 0, 0, 0, 2, []) := rfl
set_option maxRecDepth 20000 in
theorem tX7_goTake_60 : tbX7_goTake 60 = (.iadd, 61, 0, 0, 0, 0, []) := rfl
set_option maxRecDepth 20000 in
theorem tX7_goTake_61 : tbX7_goTake 61 = (.iaload, 62, 0, 0, 0, 0, []) := rfl
set_option maxRecDepth 20000 in
theorem tX7_goTake_62 : tbX7_goTake 62 = (.ifCond .ne 78, 65, 140, 0, 0, 0, []) := rfl
set_option maxRecDepth 20000 in
theorem tX7_goTake_65 : tbX7_goTake 65 = (.aload_n 0, 66, 0, 0, 0, 0, []) := rfl
set_option maxRecDepth 20000 in
theorem tX7_goTake_66 : tbX7_goTake 66 = (.getfield 7, 69, 7, 0, 0, 0, [(0, 0)]) := rfl
set_option maxRecDepth 20000 in
theorem tX7_goTake_69 : tbX7_goTake 69 = (.iconst 0, 70, 0, 0, 0, 0, []) := rfl
set_option maxRecDepth 20000 in
theorem tX7_goTake_70 : tbX7_goTake 70 = (.iaload, 71, 0, 0, 0, 0, []) := rfl
set_option maxRecDepth 20000 in
theorem tX7_goTake_71 : tbX7_goTake 71 = (.aload_n 0, 72, 0, 0, 0, 0, []) := rfl
set_option maxRecDepth 20000 in
theorem tX7_goTake_72 : tbX7_goTake 72 = (.getfield 7, 75, 7, 0, 0, 0, [(0, 0)]) := rfl
set_option maxRecDepth 20000 in
theorem tX7_goTake_75 : tbX7_goTake 75 = (.iload_n 2, 76, 0, 0, 0, 0, []) := rfl
set_option maxRecDepth 20000 in
theorem tX7_goTake_76 : tbX7_goTake 76 = (.bipush 10, 78, 0, 0, 0, 10, []) := rfl
set_option maxRecDepth 20000 in
theorem tX7_goTake_78 : tbX7_goTake 78 = (.iadd, 79, 0, 0, 0, 0, []) := rfl
set_option maxRecDepth 20000 in
theorem tX7_goTake_79 : tbX7_goTake 79 = (.iaload, 80, 0, 0, 0, 0, []) := rfl
set_option maxRecDepth 20000 in
theorem tX7_goTake_80 : tbX7_goTake 80 = (.isub, 81, 0, 0, 0, 0, []) := rfl
set_option maxRecDepth 20000 in
theorem tX7_goTake_81 : tbX7_goTake 81 = (.istore_n 3, 82, 0, 0, 0, 0, []) := rfl
set_option maxRecDepth 20000 in
theorem tX7_goTake_82 : tbX7_goTake 82 = (.aload_n 0, 83, 0, 0, 0, 0, []) := rfl
set_option maxRecDepth 20000 in
theorem tX7_goTake_83 : tbX7_goTake 83 = (.getfield 7, 86, 7, 0, 0, 0, [(0, 0)]) := rfl
set_option maxRecDepth 20000 in
theorem tX7_goTake_86 : tbX7_goTake 86 = (.iload_n 2, 87, 0, 0, 0, 0, []) := rfl
set_option maxRecDepth 20000 in
theorem tX7_goTake_87 : tbX7_goTake 87 = (.iconst 3, 88, 0, 0, 0, 3, []) := rfl
set_option maxRecDepth 20000 in
theorem tX7_goTake_88 : tbX7_goTake 88 = (.iadd, 89, 0, 0, 0, 0, []) := rfl
set_option maxRecDepth 20000 in
theorem tX7_goTake_89 : tbX7_goTake 89 = (.iconst 0, 90, 0, 0, 0, 0, []) := rfl
set_option maxRecDepth 20000 in
theorem tX7_goTake_90 : tbX7_goTake 90 = (.iastore, 91, 0, 0, 0, 0, []) := rfl
set_option maxRecDepth 20000 in
theorem tX7_goTake_91 : tbX7_goTake 91 = (.aload_n 0, 92, 0, 0, 0, 0, []) := rfl
set_option maxRecDepth 20000 in
theorem tX7_goTake_92 : tbX7_goTake 92 = (.getfield 7, 95, 7, 0, 0, 0, [(0, 0)]) := rfl
set_option maxRecDepth 20000 in
theorem tX7_goTake_95 : tbX7_goTake 95 = (.iload_n 2, 96, 0, 0, 0, 0, []) := rfl
set_option maxRecDepth 20000 in
theorem tX7_goTake_96 : tbX7_goTake 96 = (.bipush 9, 98, 0, 0, 0, 9, []) := rfl
set_option maxRecDepth 20000 in
theorem tX7_goTake_98 : tbX7_goTake 98 = (.iadd, 99, 0, 0, 0, 0, []) := rfl
set_option maxRecDepth 20000 in
theorem tX7_goTake_99 : tbX7_goTake 99 = (.iload_n 3, 100, 0, 0, 0, 0, []) := rfl
set_option maxRecDepth 20000 in
theorem tX7_goTake_100 : tbX7_goTake 100 = (.aload_n 0, 101, 0, 0, 0, 0, []) := rfl
set_option maxRecDepth 20000 in
theorem tX7_goTake_101 : tbX7_goTake 101 = (.getfield 7, 104, 7, 0, 0, 0, [(0, 0)]) := rfl
set_option maxRecDepth 20000 in
theorem tX7_goTake_104 : tbX7_goTake 104 = (.iload_n 2, 105, 0, 0, 0, 0, []) := rfl
set_option maxRecDepth 20000 in
theorem tX7_goTake_105 : tbX7_goTake 105 = (.bipush 9, 107, 0, 0, 0, 9, []) := rfl
set_option maxRecDepth 20000 in
theorem tX7_goTake_107 : tbX7_goTake 107 = (.iadd, 108, 0, 0, 0, 0, []) := rfl
set_option maxRecDepth 20000 in
theorem tX7_goTake_108 : tbX7_goTake 108 = (.iaload, 109, 0, 0, 0, 0, []) := rfl
set_option maxRecDepth 20000 in
theorem tX7_goTake_109 : tbX7_goTake 109 = (.if_icmp .le 7, 112, 116, 0, 0, 0, []) := rfl
set_option maxRecDepth 20000 in
theorem tX7_goTake_112 : tbX7_goTake 112 = (.iload_n 3, 113, 0, 0, 0, 0, []) := rfl
set_option maxRecDepth 20000 in
theorem tX7_goTake_113 : tbX7_goTake 113 = (.goto 12, 116, 125, 0, 0, 0, []) := rfl
set_option maxRecDepth 20000 in
theorem tX7_goTake_116 : tbX7_goTake 116 = (.aload_n 0, 117, 0, 0, 0, 0, []) := rfl
set_option maxRecDepth 20000 in
theorem tX7_goTake_117 : tbX7_goTake 117 = (.getfield 7, 120, 7, 0, 0, 0, [(0, 0)]) := rfl
set_option maxRecDepth 20000 in
theorem tX7_goTake_120 : tbX7_goTake 120 = (.iload_n 2, 121, 0, 0, 0, 0, []) := rfl
set_option maxRecDepth 20000 in
theorem tX7_goTake_121 : tbX7_goTake 121 = (.bipush 9, 123, 0, 0, 0, 9, []) := rfl
set_option maxRecDepth 20000 in
theorem tX7_goTake_123 : tbX7_goTake 123 = (.iadd, 124, 0, 0, 0, 0, []) := rfl
set_option maxRecDepth 20000 in
theorem tX7_goTake_124 : tbX7_goTake 124 = (.iaload, 125, 0, 0, 0, 0, []) := rfl
set_option maxRecDepth 20000 in
theorem tX7_goTake_125 : tbX7_goTake 125 = (.iastore, 126, 0, 0, 0, 0, []) := rfl
set_option maxRecDepth 20000 in
theorem tX7_goTake_126 : tbX7_goTake 126 = (.aload_n 0, 127, 0, 0, 0, 0, []) := rfl
set_option maxRecDepth 20000 in
theorem tX7_goTake_127 : tbX7_goTake 127 = (.getfield 7, 130, 7, 0, 0, 0, [(0, 0)]) := rfl
set_option maxRecDepth 20000 in
theorem tX7_goTake_130 : tbX7_goTake 130 = (.bipush 7, 132, 0, 0, 0, 7, []) := rfl
set_option maxRecDepth 20000 in
theorem tX7_goTake_132 : tbX7_goTake 132 = (.dup2, 133, 0, 0, 0, 0, []) := rfl
set_option maxRecDepth 20000 in
theorem tX7_goTake_133 : tbX7_goTake 133 = (.iaload, 134, 0, 0, 0, 0, []) := rfl
set_option maxRecDepth 20000 in
theorem tX7_goTake_134 : tbX7_goTake 134 = (.iconst 1, 135, 0, 0, 0, 1, []) := rfl
set_option maxRecDepth 20000 in
theorem tX7_goTake_135 : tbX7_goTake 135 = (.iadd, 136, 0, 0, 0, 0, []) := rfl
set_option maxRecDepth 20000 in
theorem tX7_goTake_136 : tbX7_goTake 136 = (.iastore, 137, 0, 0, 0, 0, []) := rfl
set_option maxRecDepth 20000 in
theorem tX7_goTake_137 : tbX7_goTake 137 = (.goto 14, 140, 151, 0, 0, 0, []) := rfl
set_option maxRecDepth 20000 in
theorem tX7_goTake_140 : tbX7_goTake 140 = (.aload_n 0, 141, 0, 0, 0, 0, []) := rfl
set_option maxRecDepth 20000 in
theorem tX7_goTake_141 : tbX7_goTake 141 = (.getfield 7, 144, 7, 0, 0, 0, [(0, 0)]) := rfl
set_option maxRecDepth 20000 in
theorem tX7_goTake_144 : tbX7_goTake 144 = (.bipush 8, 146, 0, 0, 0, 8, []) := rfl
set_option maxRecDepth 20000 in
theorem tX7_goTake_146 : tbX7_goTake 146 = (.dup2, 147, 0, 0, 0, 0, []) := rfl
set_option maxRecDepth 20000 in
theorem tX7_goTake_147 : tbX7_goTake 147 = (.iaload, 148, 0, 0, 0, 0, []) := rfl
set_option maxRecDepth 20000 in
theorem tX7_goTake_148 : tbX7_goTake 148 = (.iconst 1, 149, 0, 0, 0, 1, []) := rfl
set_option maxRecDepth 20000 in
theorem tX7_goTake_149 : tbX7_goTake 149 = (.iadd, 150, 0, 0, 0, 0, []) := rfl
set_option maxRecDepth 20000 in
theorem tX7_goTake_150 : tbX7_goTake 150 = (.iastore, 151, 0, 0, 0, 0, []) := rfl
set_option maxRecDepth 20000 in
theorem tX7_goTake_151 : tbX7_goTake 151 = (.aload_n 0, 152, 0, 0, 0, 0, []) := rfl
set_option maxRecDepth 20000 in
theorem tX7_goTake_152 : tbX7_goTake 152 = (.iload_n 1, 153, 0, 0, 0, 0, []) := rfl
set_option maxRecDepth 20000 in
theorem tX7_goTake_153 : tbX7_goTake 153 = (.invokevirtual 88, 156, 118, 1, 7, 0, []) := rfl
set_option maxRecDepth 20000 in
theorem tX7_goTake_156 : tbX7_goTake 156 = (.return_, 157, 0, 0, 0, 0, []) := rfl
def ltX7_goDone : List (Nat × pm_E) := [(0, .aload_n 0, 1, 0, 0, 0, 0, []), (1, .getfield 7, 4, 7, 0, 0, 0, [(0, 0)]), (4, .bipush 10, 6, 0, 0, 0, 10, []), (6, .dup2, 7, 0, 0, 0, 0, []), (7, .iaload, 8, 0, 0, 0, 0, []), (8, .iconst 1, 9, 0, 0, 0, 1, []), (9, .isub, 10, 0, 0, 0, 0, []), (10, .iastore, 11, 0, 0, 0, 0, []), (11, .aload_n 0, 12, 0, 0, 0, 0, []), (12, .getfield 7, 15, 7, 0, 0, 0, [(0, 0)]), (15, .bipush 11, 17, 0, 0, 0, 11, []), (17, .aload_n 0, 18, 0, 0, 0, 0, []), (18, .getfield 7, 21, 7, 0, 0, 0, [(0, 0)]), (21, .bipush 10, 23, 0, 0, 0, 10, []), (23, .iaload, 24, 0, 0, 0, 0, []), (24, .iadd, 25, 0, 0, 0, 0, []), (25, .iaload, 26, 0, 0, 0, 0, []), (26, .istore_n 1, 27, 0, 0, 0, 0, []), (27, .aload_n 0, 28, 0, 0, 0, 0, []), (28, .getfield 7, 31, 7, 0, 0, 0, [(0, 0)]), (31, .iload_n 1, 32, 0, 0, 0, 0, []), (32, .invokestatic 57, 35, 99, 1, 0, 0, []), (35, .iconst 4, 36, 0, 0, 0, 4, []), (36, .iadd, 37, 0, 0, 0, 0, []), (37, .iconst 2, 38, 0, 0, 0, 2, []), (38, .iastore, 39, 0, 0, 0, 0, []), (39, .aload_n 0, 40, 0, 0, 0, 0, []), (40, .getfield 7, 43, 7, 0, 0, 0, [(0, 0)]), (43, .iload_n 1, 44, 0, 0, 0, 0, []), (44, .invokestatic 57, 47, 99, 1, 0, 0, []), (47, .bipush 11, 49, 0, 0, 0, 11, []), (49, .iadd, 50, 0, 0, 0, 0, []), (50, .aload_n 0, 51, 0, 0, 0, 0, []), (51, .getfield 7, 54, 7, 0, 0, 0, [(0, 0)]), (54, .iconst 0, 55, 0, 0, 0, 0, []), (55, .iaload, 56, 0, 0, 0, 0, []), (56, .aload_n 0, 57, 0, 0, 0, 0, []), (57, .getfield 7, 60, 7, 0, 0, 0, [(0, 0)]), (60, .iconst 2, 61, 0, 0, 0, 2, []), (61, .iaload, 62, 0, 0, 0, 0, []), (62, .iadd, 63, 0, 0, 0, 0, []), (63, .iastore, 64, 0, 0, 0, 0, []), (64, .aload_n 0, 65, 0, 0, 0, 0, []), (65, .getfield 7, 68, 7, 0, 0, 0, [(0, 0)]), (68, .iload_n 1, 69, 0, 0, 0, 0, []), (69, .invokestatic 57, 72, 99, 1, 0, 0, []), (72, .bipush 12, 74, 0, 0, 0, 12, []), (74, .iadd, 75, 0, 0, 0, 0, []), (75, .aload_n 0, 76, 0, 0, 0, 0, []), (76, .getfield 7, 79, 7, 0, 0, 0, [(0, 0)]), (79, .bipush 15, 81, 0, 0, 0, 15, []), (81, .iaload, 82, 0, 0, 0, 0, []), (82, .iastore, 83, 0, 0, 0, 0, []), (83, .aload_n 0, 84, 0, 0, 0, 0, []), (84, .getfield 7, 87, 7, 0, 0, 0, [(0, 0)]), (87, .bipush 15, 89, 0, 0, 0, 15, []), (89, .dup2, 90, 0, 0, 0, 0, []), (90, .iaload, 91, 0, 0, 0, 0, []), (91, .iconst 1, 92, 0, 0, 0, 1, []), (92, .iadd, 93, 0, 0, 0, 0, []), (93, .iastore, 94, 0, 0, 0, 0, []), (94, .aload_n 0, 95, 0, 0, 0, 0, []), (95, .getfield 7, 98, 7, 0, 0, 0, [(0, 0)]), (98, .iconst 2, 99, 0, 0, 0, 2, []), (99, .iaload, 100, 0, 0, 0, 0, []), (100, .ifCond .ne 26, 103, 126, 0, 0, 0, []), (103, .aload_n 0, 104, 0, 0, 0, 0, []), (104, .getfield 7, 107, 7, 0, 0, 0, [(0, 0)]), (107, .iload_n 1, 108, 0, 0, 0, 0, []), (108, .invokestatic 57, 111, 99, 1, 0, 0, []), (111, .iconst 4, 112, 0, 0, 0, 4, []), (112, .iadd, 113, 0, 0, 0, 0, []), (113, .iconst 0, 114, 0, 0, 0, 0, []), (114, .iastore, 115, 0, 0, 0, 0, []), (115, .aload_n 0, 116, 0, 0, 0, 0, []), (116, .getfield 7, 119, 7, 0, 0, 0, [(0, 0)]), (119, .bipush 9, 121, 0, 0, 0, 9, []), (121, .dup2, 122, 0, 0, 0, 0, []), (122, .iaload, 123, 0, 0, 0, 0, []), (123, .iconst 1, 124, 0, 0, 0, 1, []), (124, .iadd, 125, 0, 0, 0, 0, []), (125, .iastore, 126, 0, 0, 0, 0, []), (126, .iload_n 1, 127, 0, 0, 0, 0, []), (127, .ireturn, 128, 0, 0, 0, 0, [])]
def tbX7_goDone : Nat → pm_E := pm_lk ltX7_goDone
theorem okX7_goDone : ∀ pc, (tbX7_goDone pc).1 = .nop ∨ pm_ok mX7_goDone pw_Ms pc (tbX7_goDone pc) := pm_lk_ok (by decide +kernel)
theorem nr_X7_goDone : mX7_goDone.2.2.2 = (some .int) := rfl
theorem tX7_goDone_0 : tbX7_goDone 0 = (.aload_n 0, 1, 0, 0, 0, 0, []) := rfl
theorem tX7_goDone_1 : tbX7_goDone 1 = (.getfield 7, 4, 7, 0, 0, 0, [(0, 0)]) := rfl
theorem tX7_goDone_4 : tbX7_goDone 4 = (.bipush 10, 6, 0, 0, 0, 10, []) := rfl
theorem tX7_goDone_6 : tbX7_goDone 6 = (.dup2, 7, 0, 0, 0, 0, []) := rfl
theorem tX7_goDone_7 : tbX7_goDone 7 = (.iaload, 8, 0, 0, 0, 0, []) := rfl
theorem tX7_goDone_8 : tbX7_goDone 8 = (.iconst 1, 9, 0, 0, 0, 1, []) := rfl
theorem tX7_goDone_9 : tbX7_goDone 9 = (.isub, 10, 0, 0, 0, 0, []) := rfl
theorem tX7_goDone_10 : tbX7_goDone 10 = (.iastore, 11, 0, 0, 0, 0, []) := rfl
theorem tX7_goDone_11 : tbX7_goDone 11 = (.aload_n 0, 12, 0, 0, 0, 0, []) := rfl
theorem tX7_goDone_12 : tbX7_goDone 12 = (.getfield 7, 15, 7, 0, 0, 0, [(0, 0)]) := rfl
theorem tX7_goDone_15 : tbX7_goDone 15 = (.bipush 11, 17, 0, 0, 0, 11, []) := rfl
theorem tX7_goDone_17 : tbX7_goDone 17 = (.aload_n 0, 18, 0, 0, 0, 0, []) := rfl
theorem tX7_goDone_18 : tbX7_goDone 18 = (.getfield 7, 21, 7, 0, 0, 0, [(0, 0)]) := rfl
theorem tX7_goDone_21 : tbX7_goDone 21 = (.bipush 10, 23, 0, 0, 0, 10, []) := rfl
theorem tX7_goDone_23 : tbX7_goDone 23 = (.iaload, 24, 0, 0, 0, 0, []) := rfl
theorem tX7_goDone_24 : tbX7_goDone 24 = (.iadd, 25, 0, 0, 0, 0, []) := rfl
theorem tX7_goDone_25 : tbX7_goDone 25 = (.iaload, 26, 0, 0, 0, 0, []) := rfl
theorem tX7_goDone_26 : tbX7_goDone 26 = (.istore_n 1, 27, 0, 0, 0, 0, []) := rfl
theorem tX7_goDone_27 : tbX7_goDone 27 = (.aload_n 0, 28, 0, 0, 0, 0, []) := rfl
theorem tX7_goDone_28 : tbX7_goDone 28 = (.getfield 7, 31, 7, 0, 0, 0, [(0, 0)]) := rfl
theorem tX7_goDone_31 : tbX7_goDone 31 = (.iload_n 1, 32, 0, 0, 0, 0, []) := rfl
theorem tX7_goDone_32 : tbX7_goDone 32 = (.invokestatic 57, 35, 99, 1, 0, 0, []) := rfl
theorem tX7_goDone_35 : tbX7_goDone 35 = (.iconst 4, 36, 0, 0, 0, 4, []) := rfl
theorem tX7_goDone_36 : tbX7_goDone 36 = (.iadd, 37, 0, 0, 0, 0, []) := rfl
theorem tX7_goDone_37 : tbX7_goDone 37 = (.iconst 2, 38, 0, 0, 0, 2, []) := rfl
theorem tX7_goDone_38 : tbX7_goDone 38 = (.iastore, 39, 0, 0, 0, 0, []) := rfl
theorem tX7_goDone_39 : tbX7_goDone 39 = (.aload_n 0, 40, 0, 0, 0, 0, []) := rfl
theorem tX7_goDone_40 : tbX7_goDone 40 = (.getfield 7, 43, 7, 0, 0, 0, [(0, 0)]) := rfl
theorem tX7_goDone_43 : tbX7_goDone 43 = (.iload_n 1, 44, 0, 0, 0, 0, []) := rfl
theorem tX7_goDone_44 : tbX7_goDone 44 = (.invokestatic 57, 47, 99, 1, 0, 0, []) := rfl
theorem tX7_goDone_47 : tbX7_goDone 47 = (.bipush 11, 49, 0, 0, 0, 11, []) := rfl
theorem tX7_goDone_49 : tbX7_goDone 49 = (.iadd, 50, 0, 0, 0, 0, []) := rfl
theorem tX7_goDone_50 : tbX7_goDone 50 = (.aload_n 0, 51, 0, 0, 0, 0, []) := rfl
theorem tX7_goDone_51 : tbX7_goDone 51 = (.getfield 7, 54, 7, 0, 0, 0, [(0, 0)]) := rfl
theorem tX7_goDone_54 : tbX7_goDone 54 = (.iconst 0, 55, 0, 0, 0, 0, []) := rfl
theorem tX7_goDone_55 : tbX7_goDone 55 = (.iaload, 56, 0, 0, 0, 0, []) := rfl
theorem tX7_goDone_56 : tbX7_goDone 56 = (.aload_n 0, 57, 0, 0, 0, 0, []) := rfl
theorem tX7_goDone_57 : tbX7_goDone 57 = (.getfield 7, 60, 7, 0, 0, 0, [(0, 0)]) := rfl
theorem tX7_goDone_60 : tbX7_goDone 60 = (.iconst 2, 61, 0, 0, 0, 2, []) := rfl
theorem tX7_goDone_61 : tbX7_goDone 61 = (.iaload, 62, 0, 0, 0, 0, []) := rfl
theorem tX7_goDone_62 : tbX7_goDone 62 = (.iadd, 63, 0, 0, 0, 0, []) := rfl
theorem tX7_goDone_63 : tbX7_goDone 63 = (.iastore, 64, 0, 0, 0, 0, []) := rfl
theorem tX7_goDone_64 : tbX7_goDone 64 = (.aload_n 0, 65, 0, 0, 0, 0, []) := rfl
theorem tX7_goDone_65 : tbX7_goDone 65 = (.getfield 7, 68, 7, 0, 0, 0, [(0, 0)]) := rfl
theorem tX7_goDone_68 : tbX7_goDone 68 = (.iload_n 1, 69, 0, 0, 0, 0, []) := rfl
theorem tX7_goDone_69 : tbX7_goDone 69 = (.invokestatic 57, 72, 99, 1, 0, 0, []) := rfl
theorem tX7_goDone_72 : tbX7_goDone 72 = (.bipush 12, 74, 0, 0, 0, 12, []) := rfl
theorem tX7_goDone_74 : tbX7_goDone 74 = (.iadd, 75, 0, 0, 0, 0, []) := rfl
theorem tX7_goDone_75 : tbX7_goDone 75 = (.aload_n 0, 76, 0, 0, 0, 0, []) := rfl
theorem tX7_goDone_76 : tbX7_goDone 76 = (.getfield 7, 79, 7, 0, 0, 0, [(0, 0)]) := rfl
theorem tX7_goDone_79 : tbX7_goDone 79 = (.bipush 15, 81, 0, 0, 0, 15, []) := rfl
theorem tX7_goDone_81 : tbX7_goDone 81 = (.iaload, 82, 0, 0, 0, 0, []) := rfl
theorem tX7_goDone_82 : tbX7_goDone 82 = (.iastore, 83, 0, 0, 0, 0, []) := rfl
theorem tX7_goDone_83 : tbX7_goDone 83 = (.aload_n 0, 84, 0, 0, 0, 0, []) := rfl
theorem tX7_goDone_84 : tbX7_goDone 84 = (.getfield 7, 87, 7, 0, 0, 0, [(0, 0)]) := rfl
theorem tX7_goDone_87 : tbX7_goDone 87 = (.bipush 15, 89, 0, 0, 0, 15, []) := rfl
theorem tX7_goDone_89 : tbX7_goDone 89 = (.dup2, 90, 0, 0, 0, 0, []) := rfl
theorem tX7_goDone_90 : tbX7_goDone 90 = (.iaload, 91, 0, 0, 0, 0, []) := rfl
theorem tX7_goDone_91 : tbX7_goDone 91 = (.iconst 1, 92, 0, 0, 0, 1, []) := rfl
theorem tX7_goDone_92 : tbX7_goDone 92 = (.iadd, 93, 0, 0, 0, 0, []) := rfl
theorem tX7_goDone_93 : tbX7_goDone 93 = (.iastore, 94, 0, 0, 0, 0, []) := rfl
theorem tX7_goDone_94 : tbX7_goDone 94 = (.aload_n 0, 95, 0, 0, 0, 0, []) := rfl
theorem tX7_goDone_95 : tbX7_goDone 95 = (.getfield 7, 98, 7, 0, 0, 0, [(0, 0)]) := rfl
theorem tX7_goDone_98 : tbX7_goDone 98 = (.iconst 2, 99, 0, 0, 0, 2, []) := rfl
theorem tX7_goDone_99 : tbX7_goDone 99 = (.iaload, 100, 0, 0, 0, 0, []) := rfl
theorem tX7_goDone_100 : tbX7_goDone 100 = (.ifCond .ne 26, 103, 126, 0, 0, 0, []) := rfl
theorem tX7_goDone_103 : tbX7_goDone 103 = (.aload_n 0, 104, 0, 0, 0, 0, []) := rfl
theorem tX7_goDone_104 : tbX7_goDone 104 = (.getfield 7, 107, 7, 0, 0, 0, [(0, 0)]) := rfl
theorem tX7_goDone_107 : tbX7_goDone 107 = (.iload_n 1, 108, 0, 0, 0, 0, []) := rfl
theorem tX7_goDone_108 : tbX7_goDone 108 = (.invokestatic 57, 111, 99, 1, 0, 0, []) := rfl
theorem tX7_goDone_111 : tbX7_goDone 111 = (.iconst 4, 112, 0, 0, 0, 4, []) := rfl
theorem tX7_goDone_112 : tbX7_goDone 112 = (.iadd, 113, 0, 0, 0, 0, []) := rfl
theorem tX7_goDone_113 : tbX7_goDone 113 = (.iconst 0, 114, 0, 0, 0, 0, []) := rfl
theorem tX7_goDone_114 : tbX7_goDone 114 = (.iastore, 115, 0, 0, 0, 0, []) := rfl
theorem tX7_goDone_115 : tbX7_goDone 115 = (.aload_n 0, 116, 0, 0, 0, 0, []) := rfl
theorem tX7_goDone_116 : tbX7_goDone 116 = (.getfield 7, 119, 7, 0, 0, 0, [(0, 0)]) := rfl
theorem tX7_goDone_119 : tbX7_goDone 119 = (.bipush 9, 121, 0, 0, 0, 9, []) := rfl
theorem tX7_goDone_121 : tbX7_goDone 121 = (.dup2, 122, 0, 0, 0, 0, []) := rfl
theorem tX7_goDone_122 : tbX7_goDone 122 = (.iaload, 123, 0, 0, 0, 0, []) := rfl
theorem tX7_goDone_123 : tbX7_goDone 123 = (.iconst 1, 124, 0, 0, 0, 1, []) := rfl
theorem tX7_goDone_124 : tbX7_goDone 124 = (.iadd, 125, 0, 0, 0, 0, []) := rfl
theorem tX7_goDone_125 : tbX7_goDone 125 = (.iastore, 126, 0, 0, 0, 0, []) := rfl
theorem tX7_goDone_126 : tbX7_goDone 126 = (.iload_n 1, 127, 0, 0, 0, 0, []) := rfl
theorem tX7_goDone_127 : tbX7_goDone 127 = (.ireturn, 128, 0, 0, 0, 0, []) := rfl
def ltX7_litState : List (Nat × pm_E) := [(0, .iload_n 1, 1, 0, 0, 0, 0, []), (1, .invokestatic 57, 4, 99, 1, 0, 0, []), (4, .istore_n 3, 5, 0, 0, 0, 0, []), (5, .iload_n 2, 6, 0, 0, 0, 0, []), (6, .tableswitch 113 4 10 #[42, 51, 60, 113, 113, 113, 74], 48, 119, 0, 0, 0, [(4, 48), (5, 57), (6, 66), (7, 119), (8, 119), (9, 119), (10, 80)]), (48, .aload_n 0, 49, 0, 0, 0, 0, []), (49, .getfield 7, 52, 7, 0, 0, 0, [(0, 0)]), (52, .iload_n 3, 53, 0, 0, 0, 0, []), (53, .iconst 4, 54, 0, 0, 0, 4, []), (54, .iadd, 55, 0, 0, 0, 0, []), (55, .iaload, 56, 0, 0, 0, 0, []), (56, .ireturn, 57, 0, 0, 0, 0, []), (57, .aload_n 0, 58, 0, 0, 0, 0, []), (58, .getfield 7, 61, 7, 0, 0, 0, [(0, 0)]), (61, .iload_n 3, 62, 0, 0, 0, 0, []), (62, .iconst 5, 63, 0, 0, 0, 5, []), (63, .iadd, 64, 0, 0, 0, 0, []), (64, .iaload, 65, 0, 0, 0, 0, []), (65, .ireturn, 66, 0, 0, 0, 0, []), (66, .aload_n 0, 67, 0, 0, 0, 0, []), (67, .iload_n 1, 68, 0, 0, 0, 0, []), (68, .invokevirtual 82, 71, 114, 1, 7, 0, []), (71, .ifCond .eq 7, 74, 78, 0, 0, 0, []), (74, .iconst 1, 75, 0, 0, 0, 1, []), (75, .goto 4, 78, 79, 0, 0, 0, []), (78, .iconst 0, 79, 0, 0, 0, 0, []), (79, .ireturn, 80, 0, 0, 0, 0, []), (80, .aload_n 0, 81, 0, 0, 0, 0, []), (81, .getfield 7, 84, 7, 0, 0, 0, [(0, 0)]), (84, .iload_n 3, 85, 0, 0, 0, 0, []), (85, .iconst 2, 86, 0, 0, 0, 2, []), (86, .iadd, 87, 0, 0, 0, 0, []), (87, .iaload, 88, 0, 0, 0, 0, []), (88, .iconst 1, 89, 0, 0, 0, 1, []), (89, .if_icmp .eq 15, 92, 104, 0, 0, 0, []), (92, .aload_n 0, 93, 0, 0, 0, 0, []), (93, .getfield 7, 96, 7, 0, 0, 0, [(0, 0)]), (96, .iload_n 3, 97, 0, 0, 0, 0, []), (97, .bipush 8, 99, 0, 0, 0, 8, []), (99, .iadd, 100, 0, 0, 0, 0, []), (100, .iaload, 101, 0, 0, 0, 0, []), (101, .ifCond .ne 8, 104, 109, 0, 0, 0, []), (104, .bipush (-4), 106, 0, 0, 0, -4, []), (106, .goto 12, 109, 118, 0, 0, 0, []), (109, .aload_n 0, 110, 0, 0, 0, 0, []), (110, .getfield 7, 113, 7, 0, 0, 0, [(0, 0)]), (113, .iload_n 3, 114, 0, 0, 0, 0, []), (114, .bipush 9, 116, 0, 0, 0, 9, []), (116, .iadd, 117, 0, 0, 0, 0, []), (117, .iaload, 118, 0, 0, 0, 0, []), (118, .ireturn, 119, 0, 0, 0, 0, []), (119, .aload_n 0, 120, 0, 0, 0, 0, []), (120, .getfield 7, 123, 7, 0, 0, 0, [(0, 0)]), (123, .iload_n 3, 124, 0, 0, 0, 0, []), (124, .iconst 4, 125, 0, 0, 0, 4, []), (125, .iadd, 126, 0, 0, 0, 0, []), (126, .iaload, 127, 0, 0, 0, 0, []), (127, .iconst 2, 128, 0, 0, 0, 2, []), (128, .if_icmp .ne 22, 131, 150, 0, 0, 0, []), (131, .aload_n 0, 132, 0, 0, 0, 0, []), (132, .getfield 7, 135, 7, 0, 0, 0, [(0, 0)]), (135, .iload_n 3, 136, 0, 0, 0, 0, []), (136, .bipush 11, 138, 0, 0, 0, 11, []), (138, .iadd, 139, 0, 0, 0, 0, []), (139, .iaload, 140, 0, 0, 0, 0, []), (140, .aload_n 0, 141, 0, 0, 0, 0, []), (141, .getfield 7, 144, 7, 0, 0, 0, [(0, 0)]), (144, .iconst 0, 145, 0, 0, 0, 0, []), (145, .iaload, 146, 0, 0, 0, 0, []), (146, .isub, 147, 0, 0, 0, 0, []), (147, .goto 5, 150, 152, 0, 0, 0, []), (150, .bipush (-4), 152, 0, 0, 0, -4, []), (152, .ireturn, 153, 0, 0, 0, 0, [])]
def tbX7_litState : Nat → pm_E := pm_lk ltX7_litState
theorem okX7_litState : ∀ pc, (tbX7_litState pc).1 = .nop ∨ pm_ok mX7_litState pw_Ms pc (tbX7_litState pc) := pm_lk_ok (by decide +kernel)
theorem nr_X7_litState : mX7_litState.2.2.2 = (some .int) := rfl
theorem tX7_litState_0 : tbX7_litState 0 = (.iload_n 1, 1, 0, 0, 0, 0, []) := rfl
theorem tX7_litState_1 : tbX7_litState 1 = (.invokestatic 57, 4, 99, 1, 0, 0, []) := rfl
theorem tX7_litState_4 : tbX7_litState 4 = (.istore_n 3, 5, 0, 0, 0, 0, []) := rfl
theorem tX7_litState_5 : tbX7_litState 5 = (.iload_n 2, 6, 0, 0, 0, 0, []) := rfl
theorem tX7_litState_6 : tbX7_litState 6 = (.tableswitch 113 4 10 #[42, 51, 60, 113, 113, 113, 74], 48, 119, 0, 0, 0, [(4, 48), (5, 57), (6, 66), (7, 119), (8, 119), (9, 119), (10, 80)]) := rfl
theorem tX7_litState_48 : tbX7_litState 48 = (.aload_n 0, 49, 0, 0, 0, 0, []) := rfl
theorem tX7_litState_49 : tbX7_litState 49 = (.getfield 7, 52, 7, 0, 0, 0, [(0, 0)]) := rfl
theorem tX7_litState_52 : tbX7_litState 52 = (.iload_n 3, 53, 0, 0, 0, 0, []) := rfl
theorem tX7_litState_53 : tbX7_litState 53 = (.iconst 4, 54, 0, 0, 0, 4, []) := rfl
theorem tX7_litState_54 : tbX7_litState 54 = (.iadd, 55, 0, 0, 0, 0, []) := rfl
theorem tX7_litState_55 : tbX7_litState 55 = (.iaload, 56, 0, 0, 0, 0, []) := rfl
theorem tX7_litState_56 : tbX7_litState 56 = (.ireturn, 57, 0, 0, 0, 0, []) := rfl
theorem tX7_litState_57 : tbX7_litState 57 = (.aload_n 0, 58, 0, 0, 0, 0, []) := rfl
theorem tX7_litState_58 : tbX7_litState 58 = (.getfield 7, 61, 7, 0, 0, 0, [(0, 0)]) := rfl
theorem tX7_litState_61 : tbX7_litState 61 = (.iload_n 3, 62, 0, 0, 0, 0, []) := rfl
theorem tX7_litState_62 : tbX7_litState 62 = (.iconst 5, 63, 0, 0, 0, 5, []) := rfl
theorem tX7_litState_63 : tbX7_litState 63 = (.iadd, 64, 0, 0, 0, 0, []) := rfl
theorem tX7_litState_64 : tbX7_litState 64 = (.iaload, 65, 0, 0, 0, 0, []) := rfl
theorem tX7_litState_65 : tbX7_litState 65 = (.ireturn, 66, 0, 0, 0, 0, []) := rfl
theorem tX7_litState_66 : tbX7_litState 66 = (.aload_n 0, 67, 0, 0, 0, 0, []) := rfl
theorem tX7_litState_67 : tbX7_litState 67 = (.iload_n 1, 68, 0, 0, 0, 0, []) := rfl
theorem tX7_litState_68 : tbX7_litState 68 = (.invokevirtual 82, 71, 114, 1, 7, 0, []) := rfl
theorem tX7_litState_71 : tbX7_litState 71 = (.ifCond .eq 7, 74, 78, 0, 0, 0, []) := rfl
theorem tX7_litState_74 : tbX7_litState 74 = (.iconst 1, 75, 0, 0, 0, 1, []) := rfl
theorem tX7_litState_75 : tbX7_litState 75 = (.goto 4, 78, 79, 0, 0, 0, []) := rfl
theorem tX7_litState_78 : tbX7_litState 78 = (.iconst 0, 79, 0, 0, 0, 0, []) := rfl
theorem tX7_litState_79 : tbX7_litState 79 = (.ireturn, 80, 0, 0, 0, 0, []) := rfl
theorem tX7_litState_80 : tbX7_litState 80 = (.aload_n 0, 81, 0, 0, 0, 0, []) := rfl
theorem tX7_litState_81 : tbX7_litState 81 = (.getfield 7, 84, 7, 0, 0, 0, [(0, 0)]) := rfl
theorem tX7_litState_84 : tbX7_litState 84 = (.iload_n 3, 85, 0, 0, 0, 0, []) := rfl
theorem tX7_litState_85 : tbX7_litState 85 = (.iconst 2, 86, 0, 0, 0, 2, []) := rfl
theorem tX7_litState_86 : tbX7_litState 86 = (.iadd, 87, 0, 0, 0, 0, []) := rfl
theorem tX7_litState_87 : tbX7_litState 87 = (.iaload, 88, 0, 0, 0, 0, []) := rfl
theorem tX7_litState_88 : tbX7_litState 88 = (.iconst 1, 89, 0, 0, 0, 1, []) := rfl
theorem tX7_litState_89 : tbX7_litState 89 = (.if_icmp .eq 15, 92, 104, 0, 0, 0, []) := rfl
theorem tX7_litState_92 : tbX7_litState 92 = (.aload_n 0, 93, 0, 0, 0, 0, []) := rfl
theorem tX7_litState_93 : tbX7_litState 93 = (.getfield 7, 96, 7, 0, 0, 0, [(0, 0)]) := rfl
theorem tX7_litState_96 : tbX7_litState 96 = (.iload_n 3, 97, 0, 0, 0, 0, []) := rfl
theorem tX7_litState_97 : tbX7_litState 97 = (.bipush 8, 99, 0, 0, 0, 8, []) := rfl
theorem tX7_litState_99 : tbX7_litState 99 = (.iadd, 100, 0, 0, 0, 0, []) := rfl
theorem tX7_litState_100 : tbX7_litState 100 = (.iaload, 101, 0, 0, 0, 0, []) := rfl
theorem tX7_litState_101 : tbX7_litState 101 = (.ifCond .ne 8, 104, 109, 0, 0, 0, []) := rfl
theorem tX7_litState_104 : tbX7_litState 104 = (.bipush (-4), 106, 0, 0, 0, -4, []) := rfl
theorem tX7_litState_106 : tbX7_litState 106 = (.goto 12, 109, 118, 0, 0, 0, []) := rfl
theorem tX7_litState_109 : tbX7_litState 109 = (.aload_n 0, 110, 0, 0, 0, 0, []) := rfl
theorem tX7_litState_110 : tbX7_litState 110 = (.getfield 7, 113, 7, 0, 0, 0, [(0, 0)]) := rfl
theorem tX7_litState_113 : tbX7_litState 113 = (.iload_n 3, 114, 0, 0, 0, 0, []) := rfl
theorem tX7_litState_114 : tbX7_litState 114 = (.bipush 9, 116, 0, 0, 0, 9, []) := rfl
theorem tX7_litState_116 : tbX7_litState 116 = (.iadd, 117, 0, 0, 0, 0, []) := rfl
theorem tX7_litState_117 : tbX7_litState 117 = (.iaload, 118, 0, 0, 0, 0, []) := rfl
theorem tX7_litState_118 : tbX7_litState 118 = (.ireturn, 119, 0, 0, 0, 0, []) := rfl
theorem tX7_litState_119 : tbX7_litState 119 = (.aload_n 0, 120, 0, 0, 0, 0, []) := rfl
theorem tX7_litState_120 : tbX7_litState 120 = (.getfield 7, 123, 7, 0, 0, 0, [(0, 0)]) := rfl
theorem tX7_litState_123 : tbX7_litState 123 = (.iload_n 3, 124, 0, 0, 0, 0, []) := rfl
theorem tX7_litState_124 : tbX7_litState 124 = (.iconst 4, 125, 0, 0, 0, 4, []) := rfl
theorem tX7_litState_125 : tbX7_litState 125 = (.iadd, 126, 0, 0, 0, 0, []) := rfl
theorem tX7_litState_126 : tbX7_litState 126 = (.iaload, 127, 0, 0, 0, 0, []) := rfl
theorem tX7_litState_127 : tbX7_litState 127 = (.iconst 2, 128, 0, 0, 0, 2, []) := rfl
theorem tX7_litState_128 : tbX7_litState 128 = (.if_icmp .ne 22, 131, 150, 0, 0, 0, []) := rfl
theorem tX7_litState_131 : tbX7_litState 131 = (.aload_n 0, 132, 0, 0, 0, 0, []) := rfl
theorem tX7_litState_132 : tbX7_litState 132 = (.getfield 7, 135, 7, 0, 0, 0, [(0, 0)]) := rfl
theorem tX7_litState_135 : tbX7_litState 135 = (.iload_n 3, 136, 0, 0, 0, 0, []) := rfl
theorem tX7_litState_136 : tbX7_litState 136 = (.bipush 11, 138, 0, 0, 0, 11, []) := rfl
theorem tX7_litState_138 : tbX7_litState 138 = (.iadd, 139, 0, 0, 0, 0, []) := rfl
theorem tX7_litState_139 : tbX7_litState 139 = (.iaload, 140, 0, 0, 0, 0, []) := rfl
theorem tX7_litState_140 : tbX7_litState 140 = (.aload_n 0, 141, 0, 0, 0, 0, []) := rfl
theorem tX7_litState_141 : tbX7_litState 141 = (.getfield 7, 144, 7, 0, 0, 0, [(0, 0)]) := rfl
theorem tX7_litState_144 : tbX7_litState 144 = (.iconst 0, 145, 0, 0, 0, 0, []) := rfl
theorem tX7_litState_145 : tbX7_litState 145 = (.iaload, 146, 0, 0, 0, 0, []) := rfl
theorem tX7_litState_146 : tbX7_litState 146 = (.isub, 147, 0, 0, 0, 0, []) := rfl
theorem tX7_litState_147 : tbX7_litState 147 = (.goto 5, 150, 152, 0, 0, 0, []) := rfl
theorem tX7_litState_150 : tbX7_litState 150 = (.bipush (-4), 152, 0, 0, 0, -4, []) := rfl
theorem tX7_litState_152 : tbX7_litState 152 = (.ireturn, 153, 0, 0, 0, 0, []) := rfl
def ltX7_lineOf : List (Nat × pm_E) := [(0, .aload_n 0, 1, 0, 0, 0, 0, []), (1, .iload_n 1, 2, 0, 0, 0, 0, []), (2, .invokevirtual 64, 5, 101, 1, 7, 0, []), (5, .ifCond .eq 13, 8, 18, 0, 0, 0, []), (8, .iload_n 2, 9, 0, 0, 0, 0, []), (9, .iconst 0, 10, 0, 0, 0, 0, []), (10, .bipush 11, 12, 0, 0, 0, 11, []), (12, .invokestatic 35, 15, 94, 3, 0, 0, []), (15, .ifCond .ne 5, 18, 20, 0, 0, 0, []), (18, .iconst (-1), 19, 0, 0, 0, -1, []), (19, .ireturn, 20, 0, 0, 0, 0, []), (20, .iload_n 2, 21, 0, 0, 0, 0, []), (21, .tableswitch 142 0 9 #[55, 67, 79, 91, 142, 142, 142, 103, 116, 129], 76, 163, 0, 0, 0, [(0, 76), (1, 88), (2, 100), (3, 112), (4, 163), (5, 163), (6, 163), (7, 124), (8, 137), (9, 150)]), (76, .aload_n 0, 77, 0, 0, 0, 0, []), (77, .getfield 7, 80, 7, 0, 0, 0, [(0, 0)]), (80, .iload_n 1, 81, 0, 0, 0, 0, []), (81, .invokestatic 57, 84, 99, 1, 0, 0, []), (84, .iconst 0, 85, 0, 0, 0, 0, []), (85, .iadd, 86, 0, 0, 0, 0, []), (86, .iaload, 87, 0, 0, 0, 0, []), (87, .ireturn, 88, 0, 0, 0, 0, []), (88, .aload_n 0, 89, 0, 0, 0, 0, []), (89, .getfield 7, 92, 7, 0, 0, 0, [(0, 0)]), (92, .iload_n 1, 93, 0, 0, 0, 0, []), (93, .invokestatic 57, 96, 99, 1, 0, 0, []), (96, .iconst 1, 97, 0, 0, 0, 1, []), (97, .iadd, 98, 0, 0, 0, 0, []), (98, .iaload, 99, 0, 0, 0, 0, []), (99, .ireturn, 100, 0, 0, 0, 0, []), (100, .aload_n 0, 101, 0, 0, 0, 0, []), (101, .getfield 7, 104, 7, 0, 0, 0, [(0, 0)]), (104, .iload_n 1, 105, 0, 0, 0, 0, []), (105, .invokestatic 57, 108, 99, 1, 0, 0, []), (108, .iconst 2, 109, 0, 0, 0, 2, []), (109, .iadd, 110, 0, 0, 0, 0, []), (110, .iaload, 111, 0, 0, 0, 0, []), (111, .ireturn, 112, 0, 0, 0, 0, []), (112, .aload_n 0, 113, 0, 0, 0, 0, []), (113, .getfield 7, 116, 7, 0, 0, 0, [(0, 0)]), (116, .iload_n 1, 117, 0, 0, 0, 0, []), (117, .invokestatic 57, 120, 99, 1, 0, 0, []), (120, .iconst 3, 121, 0, 0, 0, 3, []), (121, .iadd, 122, 0, 0, 0, 0, []), (122, .iaload, 123, 0, 0, 0, 0, []), (123, .ireturn, 124, 0, 0, 0, 0, []), (124, .aload_n 0, 125, 0, 0, 0, 0, []), (125, .getfield 7, 128, 7, 0, 0, 0, [(0, 0)]), (128, .iload_n 1, 129, 0, 0, 0, 0, []), (129, .invokestatic 57, 132, 99, 1, 0, 0, []), (132, .bipush 6, 134, 0, 0, 0, 6, []), (134, .iadd, 135, 0, 0, 0, 0, []), (135, .iaload, 136, 0, 0, 0, 0, []), (136, .ireturn, 137, 0, 0, 0, 0, []), (137, .aload_n 0, 138, 0, 0, 0, 0, []), (138, .getfield 7, 141, 7, 0, 0, 0, [(0, 0)]), (141, .iload_n 1, 142, 0, 0, 0, 0, []), (142, .invokestatic 57, 145, 99, 1, 0, 0, []), (145, .bipush 7, 147, 0, 0, 0, 7, []), (147, .iadd, 148, 0, 0, 0, 0, []), (148, .iaload, 149, 0, 0, 0, 0, []), (149, .ireturn, 150, 0, 0, 0, 0, []), (150, .aload_n 0, 151, 0, 0, 0, 0, []), (151, .getfield 7, 154, 7, 0, 0, 0, [(0, 0)]), (154, .iload_n 1, 155, 0, 0, 0, 0, []), (155, .invokestatic 57, 158, 99, 1, 0, 0, []), (158, .bipush 8, 160, 0, 0, 0, 8, []), (160, .iadd, 161, 0, 0, 0, 0, []), (161, .iaload, 162, 0, 0, 0, 0, []), (162, .ireturn, 163, 0, 0, 0, 0, []), (163, .aload_n 0, 164, 0, 0, 0, 0, []), (164, .iload_n 1, 165, 0, 0, 0, 0, []), (165, .iload_n 2, 166, 0, 0, 0, 0, []), (166, .invokevirtual 92, 169, 121, 2, 7, 0, []), (169, .ireturn, 170, 0, 0, 0, 0, [])]
def tbX7_lineOf : Nat → pm_E := pm_lk ltX7_lineOf
theorem okX7_lineOf : ∀ pc, (tbX7_lineOf pc).1 = .nop ∨ pm_ok mX7_lineOf pw_Ms pc (tbX7_lineOf pc) := pm_lk_ok (by decide +kernel)
theorem nr_X7_lineOf : mX7_lineOf.2.2.2 = (some .int) := rfl
theorem tX7_lineOf_0 : tbX7_lineOf 0 = (.aload_n 0, 1, 0, 0, 0, 0, []) := rfl
theorem tX7_lineOf_1 : tbX7_lineOf 1 = (.iload_n 1, 2, 0, 0, 0, 0, []) := rfl
theorem tX7_lineOf_2 : tbX7_lineOf 2 = (.invokevirtual 64, 5, 101, 1, 7, 0, []) := rfl
theorem tX7_lineOf_5 : tbX7_lineOf 5 = (.ifCond .eq 13, 8, 18, 0, 0, 0, []) := rfl
theorem tX7_lineOf_8 : tbX7_lineOf 8 = (.iload_n 2, 9, 0, 0, 0, 0, []) := rfl
theorem tX7_lineOf_9 : tbX7_lineOf 9 = (.iconst 0, 10, 0, 0, 0, 0, []) := rfl
theorem tX7_lineOf_10 : tbX7_lineOf 10 = (.bipush 11, 12, 0, 0, 0, 11, []) := rfl
theorem tX7_lineOf_12 : tbX7_lineOf 12 = (.invokestatic 35, 15, 94, 3, 0, 0, []) := rfl
theorem tX7_lineOf_15 : tbX7_lineOf 15 = (.ifCond .ne 5, 18, 20, 0, 0, 0, []) := rfl
theorem tX7_lineOf_18 : tbX7_lineOf 18 = (.iconst (-1), 19, 0, 0, 0, -1, []) := rfl
theorem tX7_lineOf_19 : tbX7_lineOf 19 = (.ireturn, 20, 0, 0, 0, 0, []) := rfl
theorem tX7_lineOf_20 : tbX7_lineOf 20 = (.iload_n 2, 21, 0, 0, 0, 0, []) := rfl
theorem tX7_lineOf_21 : tbX7_lineOf 21 = (.tableswitch 142 0 9 #[55, 67, 79, 91, 142, 142, 142, 103, 116, 129], 76, 163, 0, 0, 0, [(0, 76), (1, 88), (2, 100), (3, 112), (4, 163), (5, 163), (6, 163), (7, 124), (8, 137), (9, 150)]) := rfl
theorem tX7_lineOf_76 : tbX7_lineOf 76 = (.aload_n 0, 77, 0, 0, 0, 0, []) := rfl
theorem tX7_lineOf_77 : tbX7_lineOf 77 = (.getfield 7, 80, 7, 0, 0, 0, [(0, 0)]) := rfl
theorem tX7_lineOf_80 : tbX7_lineOf 80 = (.iload_n 1, 81, 0, 0, 0, 0, []) := rfl
theorem tX7_lineOf_81 : tbX7_lineOf 81 = (.invokestatic 57, 84, 99, 1, 0, 0, []) := rfl
theorem tX7_lineOf_84 : tbX7_lineOf 84 = (.iconst 0, 85, 0, 0, 0, 0, []) := rfl
theorem tX7_lineOf_85 : tbX7_lineOf 85 = (.iadd, 86, 0, 0, 0, 0, []) := rfl
theorem tX7_lineOf_86 : tbX7_lineOf 86 = (.iaload, 87, 0, 0, 0, 0, []) := rfl
theorem tX7_lineOf_87 : tbX7_lineOf 87 = (.ireturn, 88, 0, 0, 0, 0, []) := rfl
theorem tX7_lineOf_88 : tbX7_lineOf 88 = (.aload_n 0, 89, 0, 0, 0, 0, []) := rfl
theorem tX7_lineOf_89 : tbX7_lineOf 89 = (.getfield 7, 92, 7, 0, 0, 0, [(0, 0)]) := rfl
theorem tX7_lineOf_92 : tbX7_lineOf 92 = (.iload_n 1, 93, 0, 0, 0, 0, []) := rfl
theorem tX7_lineOf_93 : tbX7_lineOf 93 = (.invokestatic 57, 96, 99, 1, 0, 0, []) := rfl
theorem tX7_lineOf_96 : tbX7_lineOf 96 = (.iconst 1, 97, 0, 0, 0, 1, []) := rfl
theorem tX7_lineOf_97 : tbX7_lineOf 97 = (.iadd, 98, 0, 0, 0, 0, []) := rfl
theorem tX7_lineOf_98 : tbX7_lineOf 98 = (.iaload, 99, 0, 0, 0, 0, []) := rfl
theorem tX7_lineOf_99 : tbX7_lineOf 99 = (.ireturn, 100, 0, 0, 0, 0, []) := rfl
theorem tX7_lineOf_100 : tbX7_lineOf 100 = (.aload_n 0, 101, 0, 0, 0, 0, []) := rfl
theorem tX7_lineOf_101 : tbX7_lineOf 101 = (.getfield 7, 104, 7, 0, 0, 0, [(0, 0)]) := rfl
theorem tX7_lineOf_104 : tbX7_lineOf 104 = (.iload_n 1, 105, 0, 0, 0, 0, []) := rfl
theorem tX7_lineOf_105 : tbX7_lineOf 105 = (.invokestatic 57, 108, 99, 1, 0, 0, []) := rfl
theorem tX7_lineOf_108 : tbX7_lineOf 108 = (.iconst 2, 109, 0, 0, 0, 2, []) := rfl
theorem tX7_lineOf_109 : tbX7_lineOf 109 = (.iadd, 110, 0, 0, 0, 0, []) := rfl
theorem tX7_lineOf_110 : tbX7_lineOf 110 = (.iaload, 111, 0, 0, 0, 0, []) := rfl
theorem tX7_lineOf_111 : tbX7_lineOf 111 = (.ireturn, 112, 0, 0, 0, 0, []) := rfl
theorem tX7_lineOf_112 : tbX7_lineOf 112 = (.aload_n 0, 113, 0, 0, 0, 0, []) := rfl
theorem tX7_lineOf_113 : tbX7_lineOf 113 = (.getfield 7, 116, 7, 0, 0, 0, [(0, 0)]) := rfl
theorem tX7_lineOf_116 : tbX7_lineOf 116 = (.iload_n 1, 117, 0, 0, 0, 0, []) := rfl
theorem tX7_lineOf_117 : tbX7_lineOf 117 = (.invokestatic 57, 120, 99, 1, 0, 0, []) := rfl
theorem tX7_lineOf_120 : tbX7_lineOf 120 = (.iconst 3, 121, 0, 0, 0, 3, []) := rfl
theorem tX7_lineOf_121 : tbX7_lineOf 121 = (.iadd, 122, 0, 0, 0, 0, []) := rfl
theorem tX7_lineOf_122 : tbX7_lineOf 122 = (.iaload, 123, 0, 0, 0, 0, []) := rfl
theorem tX7_lineOf_123 : tbX7_lineOf 123 = (.ireturn, 124, 0, 0, 0, 0, []) := rfl
theorem tX7_lineOf_124 : tbX7_lineOf 124 = (.aload_n 0, 125, 0, 0, 0, 0, []) := rfl
theorem tX7_lineOf_125 : tbX7_lineOf 125 = (.getfield 7, 128, 7, 0, 0, 0, [(0, 0)]) := rfl
theorem tX7_lineOf_128 : tbX7_lineOf 128 = (.iload_n 1, 129, 0, 0, 0, 0, []) := rfl
theorem tX7_lineOf_129 : tbX7_lineOf 129 = (.invokestatic 57, 132, 99, 1, 0, 0, []) := rfl
theorem tX7_lineOf_132 : tbX7_lineOf 132 = (.bipush 6, 134, 0, 0, 0, 6, []) := rfl
theorem tX7_lineOf_134 : tbX7_lineOf 134 = (.iadd, 135, 0, 0, 0, 0, []) := rfl
theorem tX7_lineOf_135 : tbX7_lineOf 135 = (.iaload, 136, 0, 0, 0, 0, []) := rfl
theorem tX7_lineOf_136 : tbX7_lineOf 136 = (.ireturn, 137, 0, 0, 0, 0, []) := rfl
theorem tX7_lineOf_137 : tbX7_lineOf 137 = (.aload_n 0, 138, 0, 0, 0, 0, []) := rfl
theorem tX7_lineOf_138 : tbX7_lineOf 138 = (.getfield 7, 141, 7, 0, 0, 0, [(0, 0)]) := rfl
theorem tX7_lineOf_141 : tbX7_lineOf 141 = (.iload_n 1, 142, 0, 0, 0, 0, []) := rfl
theorem tX7_lineOf_142 : tbX7_lineOf 142 = (.invokestatic 57, 145, 99, 1, 0, 0, []) := rfl
theorem tX7_lineOf_145 : tbX7_lineOf 145 = (.bipush 7, 147, 0, 0, 0, 7, []) := rfl
theorem tX7_lineOf_147 : tbX7_lineOf 147 = (.iadd, 148, 0, 0, 0, 0, []) := rfl
theorem tX7_lineOf_148 : tbX7_lineOf 148 = (.iaload, 149, 0, 0, 0, 0, []) := rfl
theorem tX7_lineOf_149 : tbX7_lineOf 149 = (.ireturn, 150, 0, 0, 0, 0, []) := rfl
theorem tX7_lineOf_150 : tbX7_lineOf 150 = (.aload_n 0, 151, 0, 0, 0, 0, []) := rfl
theorem tX7_lineOf_151 : tbX7_lineOf 151 = (.getfield 7, 154, 7, 0, 0, 0, [(0, 0)]) := rfl
theorem tX7_lineOf_154 : tbX7_lineOf 154 = (.iload_n 1, 155, 0, 0, 0, 0, []) := rfl
theorem tX7_lineOf_155 : tbX7_lineOf 155 = (.invokestatic 57, 158, 99, 1, 0, 0, []) := rfl
theorem tX7_lineOf_158 : tbX7_lineOf 158 = (.bipush 8, 160, 0, 0, 0, 8, []) := rfl
theorem tX7_lineOf_160 : tbX7_lineOf 160 = (.iadd, 161, 0, 0, 0, 0, []) := rfl
theorem tX7_lineOf_161 : tbX7_lineOf 161 = (.iaload, 162, 0, 0, 0, 0, []) := rfl
theorem tX7_lineOf_162 : tbX7_lineOf 162 = (.ireturn, 163, 0, 0, 0, 0, []) := rfl
theorem tX7_lineOf_163 : tbX7_lineOf 163 = (.aload_n 0, 164, 0, 0, 0, 0, []) := rfl
theorem tX7_lineOf_164 : tbX7_lineOf 164 = (.iload_n 1, 165, 0, 0, 0, 0, []) := rfl
theorem tX7_lineOf_165 : tbX7_lineOf 165 = (.iload_n 2, 166, 0, 0, 0, 0, []) := rfl
theorem tX7_lineOf_166 : tbX7_lineOf 166 = (.invokevirtual 92, 169, 121, 2, 7, 0, []) := rfl
theorem tX7_lineOf_169 : tbX7_lineOf 169 = (.ireturn, 170, 0, 0, 0, 0, []) := rfl
def ltX7_nodeOf : List (Nat × pm_E) := [(0, .aload_n 0, 1, 0, 0, 0, 0, []), (1, .iload_n 1, 2, 0, 0, 0, 0, []), (2, .invokevirtual 43, 5, 100, 1, 7, 0, []), (5, .ifCond .eq 12, 8, 17, 0, 0, 0, []), (8, .iload_n 2, 9, 0, 0, 0, 0, []), (9, .iconst 0, 10, 0, 0, 0, 0, []), (10, .iconst 5, 11, 0, 0, 0, 5, []), (11, .invokestatic 35, 14, 94, 3, 0, 0, []), (14, .ifCond .ne 5, 17, 19, 0, 0, 0, []), (17, .iconst (-1), 18, 0, 0, 0, -1, []), (18, .ireturn, 19, 0, 0, 0, 0, []), (19, .iload_n 2, 20, 0, 0, 0, 0, []), (20, .tableswitch 102 0 4 #[36, 57, 69, 81, 93], 56, 122, 0, 0, 0, [(0, 56), (1, 77), (2, 89), (3, 101), (4, 113)]), (56, .iload_n 1, 57, 0, 0, 0, 0, []), (57, .ifCond .ne 8, 60, 65, 0, 0, 0, []), (60, .bipush (-4), 62, 0, 0, 0, -4, []), (62, .goto 14, 65, 76, 0, 0, 0, []), (65, .aload_n 0, 66, 0, 0, 0, 0, []), (66, .getfield 7, 69, 7, 0, 0, 0, [(0, 0)]), (69, .iload_n 1, 70, 0, 0, 0, 0, []), (70, .invokestatic 39, 73, 98, 1, 0, 0, []), (73, .iconst 0, 74, 0, 0, 0, 0, []), (74, .iadd, 75, 0, 0, 0, 0, []), (75, .iaload, 76, 0, 0, 0, 0, []), (76, .ireturn, 77, 0, 0, 0, 0, []), (77, .aload_n 0, 78, 0, 0, 0, 0, []), (78, .getfield 7, 81, 7, 0, 0, 0, [(0, 0)]), (81, .iload_n 1, 82, 0, 0, 0, 0, []), (82, .invokestatic 39, 85, 98, 1, 0, 0, []), (85, .iconst 1, 86, 0, 0, 0, 1, []), (86, .iadd, 87, 0, 0, 0, 0, []), (87, .iaload, 88, 0, 0, 0, 0, []), (88, .ireturn, 89, 0, 0, 0, 0, []), (89, .aload_n 0, 90, 0, 0, 0, 0, []), (90, .getfield 7, 93, 7, 0, 0, 0, [(0, 0)]), (93, .iload_n 1, 94, 0, 0, 0, 0, []), (94, .invokestatic 39, 97, 98, 1, 0, 0, []), (97, .iconst 3, 98, 0, 0, 0, 3, []), (98, .iadd, 99, 0, 0, 0, 0, []), (99, .iaload, 100, 0, 0, 0, 0, []), (100, .ireturn, 101, 0, 0, 0, 0, []), (101, .aload_n 0, 102, 0, 0, 0, 0, []), (102, .getfield 7, 105, 7, 0, 0, 0, [(0, 0)]), (105, .iload_n 1, 106, 0, 0, 0, 0, []), (106, .invokestatic 39, 109, 98, 1, 0, 0, []), (109, .iconst 2, 110, 0, 0, 0, 2, []), (110, .iadd, 111, 0, 0, 0, 0, []), (111, .iaload, 112, 0, 0, 0, 0, []), (112, .ireturn, 113, 0, 0, 0, 0, []), (113, .aload_n 0, 114, 0, 0, 0, 0, []), (114, .iload_n 1, 115, 0, 0, 0, 0, []), (115, .invokevirtual 73, 118, 107, 1, 7, 0, []), (118, .invokestatic 70, 121, 108, 1, 0, 0, []), (121, .ireturn, 122, 0, 0, 0, 0, []), (122, .aload_n 0, 123, 0, 0, 0, 0, []), (123, .iload_n 1, 124, 0, 0, 0, 0, []), (124, .invokevirtual 73, 127, 107, 1, 7, 0, []), (127, .aload_n 0, 128, 0, 0, 0, 0, []), (128, .iconst 0, 129, 0, 0, 0, 0, []), (129, .invokevirtual 67, 132, 139, 1, 7, 0, []), (132, .iand, 133, 0, 0, 0, 0, []), (133, .ireturn, 134, 0, 0, 0, 0, [])]
def tbX7_nodeOf : Nat → pm_E := pm_lk ltX7_nodeOf
theorem okX7_nodeOf : ∀ pc, (tbX7_nodeOf pc).1 = .nop ∨ pm_ok mX7_nodeOf pw_Ms pc (tbX7_nodeOf pc) := pm_lk_ok (by decide +kernel)
theorem nr_X7_nodeOf : mX7_nodeOf.2.2.2 = (some .int) := rfl
theorem tX7_nodeOf_0 : tbX7_nodeOf 0 = (.aload_n 0, 1, 0, 0, 0, 0, []) := rfl
theorem tX7_nodeOf_1 : tbX7_nodeOf 1 = (.iload_n 1, 2, 0, 0, 0, 0, []) := rfl
theorem tX7_nodeOf_2 : tbX7_nodeOf 2 = (.invokevirtual 43, 5, 100, 1, 7, 0, []) := rfl
theorem tX7_nodeOf_5 : tbX7_nodeOf 5 = (.ifCond .eq 12, 8, 17, 0, 0, 0, []) := rfl
theorem tX7_nodeOf_8 : tbX7_nodeOf 8 = (.iload_n 2, 9, 0, 0, 0, 0, []) := rfl
theorem tX7_nodeOf_9 : tbX7_nodeOf 9 = (.iconst 0, 10, 0, 0, 0, 0, []) := rfl
theorem tX7_nodeOf_10 : tbX7_nodeOf 10 = (.iconst 5, 11, 0, 0, 0, 5, []) := rfl
theorem tX7_nodeOf_11 : tbX7_nodeOf 11 = (.invokestatic 35, 14, 94, 3, 0, 0, []) := rfl
theorem tX7_nodeOf_14 : tbX7_nodeOf 14 = (.ifCond .ne 5, 17, 19, 0, 0, 0, []) := rfl
theorem tX7_nodeOf_17 : tbX7_nodeOf 17 = (.iconst (-1), 18, 0, 0, 0, -1, []) := rfl
theorem tX7_nodeOf_18 : tbX7_nodeOf 18 = (.ireturn, 19, 0, 0, 0, 0, []) := rfl
theorem tX7_nodeOf_19 : tbX7_nodeOf 19 = (.iload_n 2, 20, 0, 0, 0, 0, []) := rfl
theorem tX7_nodeOf_20 : tbX7_nodeOf 20 = (.tableswitch 102 0 4 #[36, 57, 69, 81, 93], 56, 122, 0, 0, 0, [(0, 56), (1, 77), (2, 89), (3, 101), (4, 113)]) := rfl
theorem tX7_nodeOf_56 : tbX7_nodeOf 56 = (.iload_n 1, 57, 0, 0, 0, 0, []) := rfl
theorem tX7_nodeOf_57 : tbX7_nodeOf 57 = (.ifCond .ne 8, 60, 65, 0, 0, 0, []) := rfl
theorem tX7_nodeOf_60 : tbX7_nodeOf 60 = (.bipush (-4), 62, 0, 0, 0, -4, []) := rfl
theorem tX7_nodeOf_62 : tbX7_nodeOf 62 = (.goto 14, 65, 76, 0, 0, 0, []) := rfl
theorem tX7_nodeOf_65 : tbX7_nodeOf 65 = (.aload_n 0, 66, 0, 0, 0, 0, []) := rfl
theorem tX7_nodeOf_66 : tbX7_nodeOf 66 = (.getfield 7, 69, 7, 0, 0, 0, [(0, 0)]) := rfl
theorem tX7_nodeOf_69 : tbX7_nodeOf 69 = (.iload_n 1, 70, 0, 0, 0, 0, []) := rfl
theorem tX7_nodeOf_70 : tbX7_nodeOf 70 = (.invokestatic 39, 73, 98, 1, 0, 0, []) := rfl
theorem tX7_nodeOf_73 : tbX7_nodeOf 73 = (.iconst 0, 74, 0, 0, 0, 0, []) := rfl
theorem tX7_nodeOf_74 : tbX7_nodeOf 74 = (.iadd, 75, 0, 0, 0, 0, []) := rfl
theorem tX7_nodeOf_75 : tbX7_nodeOf 75 = (.iaload, 76, 0, 0, 0, 0, []) := rfl
theorem tX7_nodeOf_76 : tbX7_nodeOf 76 = (.ireturn, 77, 0, 0, 0, 0, []) := rfl
theorem tX7_nodeOf_77 : tbX7_nodeOf 77 = (.aload_n 0, 78, 0, 0, 0, 0, []) := rfl
theorem tX7_nodeOf_78 : tbX7_nodeOf 78 = (.getfield 7, 81, 7, 0, 0, 0, [(0, 0)]) := rfl
theorem tX7_nodeOf_81 : tbX7_nodeOf 81 = (.iload_n 1, 82, 0, 0, 0, 0, []) := rfl
theorem tX7_nodeOf_82 : tbX7_nodeOf 82 = (.invokestatic 39, 85, 98, 1, 0, 0, []) := rfl
theorem tX7_nodeOf_85 : tbX7_nodeOf 85 = (.iconst 1, 86, 0, 0, 0, 1, []) := rfl
theorem tX7_nodeOf_86 : tbX7_nodeOf 86 = (.iadd, 87, 0, 0, 0, 0, []) := rfl
theorem tX7_nodeOf_87 : tbX7_nodeOf 87 = (.iaload, 88, 0, 0, 0, 0, []) := rfl
theorem tX7_nodeOf_88 : tbX7_nodeOf 88 = (.ireturn, 89, 0, 0, 0, 0, []) := rfl
theorem tX7_nodeOf_89 : tbX7_nodeOf 89 = (.aload_n 0, 90, 0, 0, 0, 0, []) := rfl
theorem tX7_nodeOf_90 : tbX7_nodeOf 90 = (.getfield 7, 93, 7, 0, 0, 0, [(0, 0)]) := rfl
theorem tX7_nodeOf_93 : tbX7_nodeOf 93 = (.iload_n 1, 94, 0, 0, 0, 0, []) := rfl
theorem tX7_nodeOf_94 : tbX7_nodeOf 94 = (.invokestatic 39, 97, 98, 1, 0, 0, []) := rfl
theorem tX7_nodeOf_97 : tbX7_nodeOf 97 = (.iconst 3, 98, 0, 0, 0, 3, []) := rfl
theorem tX7_nodeOf_98 : tbX7_nodeOf 98 = (.iadd, 99, 0, 0, 0, 0, []) := rfl
theorem tX7_nodeOf_99 : tbX7_nodeOf 99 = (.iaload, 100, 0, 0, 0, 0, []) := rfl
theorem tX7_nodeOf_100 : tbX7_nodeOf 100 = (.ireturn, 101, 0, 0, 0, 0, []) := rfl
theorem tX7_nodeOf_101 : tbX7_nodeOf 101 = (.aload_n 0, 102, 0, 0, 0, 0, []) := rfl
theorem tX7_nodeOf_102 : tbX7_nodeOf 102 = (.getfield 7, 105, 7, 0, 0, 0, [(0, 0)]) := rfl
theorem tX7_nodeOf_105 : tbX7_nodeOf 105 = (.iload_n 1, 106, 0, 0, 0, 0, []) := rfl
theorem tX7_nodeOf_106 : tbX7_nodeOf 106 = (.invokestatic 39, 109, 98, 1, 0, 0, []) := rfl
theorem tX7_nodeOf_109 : tbX7_nodeOf 109 = (.iconst 2, 110, 0, 0, 0, 2, []) := rfl
theorem tX7_nodeOf_110 : tbX7_nodeOf 110 = (.iadd, 111, 0, 0, 0, 0, []) := rfl
theorem tX7_nodeOf_111 : tbX7_nodeOf 111 = (.iaload, 112, 0, 0, 0, 0, []) := rfl
theorem tX7_nodeOf_112 : tbX7_nodeOf 112 = (.ireturn, 113, 0, 0, 0, 0, []) := rfl
theorem tX7_nodeOf_113 : tbX7_nodeOf 113 = (.aload_n 0, 114, 0, 0, 0, 0, []) := rfl
theorem tX7_nodeOf_114 : tbX7_nodeOf 114 = (.iload_n 1, 115, 0, 0, 0, 0, []) := rfl
theorem tX7_nodeOf_115 : tbX7_nodeOf 115 = (.invokevirtual 73, 118, 107, 1, 7, 0, []) := rfl
theorem tX7_nodeOf_118 : tbX7_nodeOf 118 = (.invokestatic 70, 121, 108, 1, 0, 0, []) := rfl
theorem tX7_nodeOf_121 : tbX7_nodeOf 121 = (.ireturn, 122, 0, 0, 0, 0, []) := rfl
theorem tX7_nodeOf_122 : tbX7_nodeOf 122 = (.aload_n 0, 123, 0, 0, 0, 0, []) := rfl
theorem tX7_nodeOf_123 : tbX7_nodeOf 123 = (.iload_n 1, 124, 0, 0, 0, 0, []) := rfl
theorem tX7_nodeOf_124 : tbX7_nodeOf 124 = (.invokevirtual 73, 127, 107, 1, 7, 0, []) := rfl
theorem tX7_nodeOf_127 : tbX7_nodeOf 127 = (.aload_n 0, 128, 0, 0, 0, 0, []) := rfl
theorem tX7_nodeOf_128 : tbX7_nodeOf 128 = (.iconst 0, 129, 0, 0, 0, 0, []) := rfl
theorem tX7_nodeOf_129 : tbX7_nodeOf 129 = (.invokevirtual 67, 132, 139, 1, 7, 0, []) := rfl
theorem tX7_nodeOf_132 : tbX7_nodeOf 132 = (.iand, 133, 0, 0, 0, 0, []) := rfl
theorem tX7_nodeOf_133 : tbX7_nodeOf 133 = (.ireturn, 134, 0, 0, 0, 0, []) := rfl
def ltX7_inputAt : List (Nat × pm_E) := [(0, .aload_n 0, 1, 0, 0, 0, 0, []), (1, .iload_n 1, 2, 0, 0, 0, 0, []), (2, .invokevirtual 43, 5, 100, 1, 7, 0, []), (5, .ifCond .eq 7, 8, 12, 0, 0, 0, []), (8, .iload_n 2, 9, 0, 0, 0, 0, []), (9, .ifCond .ge 5, 12, 14, 0, 0, 0, []), (12, .iconst (-1), 13, 0, 0, 0, -1, []), (13, .ireturn, 14, 0, 0, 0, 0, []), (14, .iload_n 2, 15, 0, 0, 0, 0, []), (15, .aload_n 0, 16, 0, 0, 0, 0, []), (16, .getfield 7, 19, 7, 0, 0, 0, [(0, 0)]), (19, .iload_n 1, 20, 0, 0, 0, 0, []), (20, .invokestatic 39, 23, 98, 1, 0, 0, []), (23, .iconst 3, 24, 0, 0, 0, 3, []), (24, .iadd, 25, 0, 0, 0, 0, []), (25, .iaload, 26, 0, 0, 0, 0, []), (26, .if_icmp .ge 19, 29, 45, 0, 0, 0, []), (29, .aload_n 0, 30, 0, 0, 0, 0, []), (30, .getfield 7, 33, 7, 0, 0, 0, [(0, 0)]), (33, .iload_n 1, 34, 0, 0, 0, 0, []), (34, .invokestatic 39, 37, 98, 1, 0, 0, []), (37, .iconst 4, 38, 0, 0, 0, 4, []), (38, .iadd, 39, 0, 0, 0, 0, []), (39, .iload_n 2, 40, 0, 0, 0, 0, []), (40, .iadd, 41, 0, 0, 0, 0, []), (41, .iaload, 42, 0, 0, 0, 0, []), (42, .goto 5, 45, 47, 0, 0, 0, []), (45, .bipush (-4), 47, 0, 0, 0, -4, []), (47, .ireturn, 48, 0, 0, 0, 0, [])]
def tbX7_inputAt : Nat → pm_E := pm_lk ltX7_inputAt
theorem okX7_inputAt : ∀ pc, (tbX7_inputAt pc).1 = .nop ∨ pm_ok mX7_inputAt pw_Ms pc (tbX7_inputAt pc) := pm_lk_ok (by decide +kernel)
theorem nr_X7_inputAt : mX7_inputAt.2.2.2 = (some .int) := rfl
theorem tX7_inputAt_0 : tbX7_inputAt 0 = (.aload_n 0, 1, 0, 0, 0, 0, []) := rfl
theorem tX7_inputAt_1 : tbX7_inputAt 1 = (.iload_n 1, 2, 0, 0, 0, 0, []) := rfl
theorem tX7_inputAt_2 : tbX7_inputAt 2 = (.invokevirtual 43, 5, 100, 1, 7, 0, []) := rfl
theorem tX7_inputAt_5 : tbX7_inputAt 5 = (.ifCond .eq 7, 8, 12, 0, 0, 0, []) := rfl
theorem tX7_inputAt_8 : tbX7_inputAt 8 = (.iload_n 2, 9, 0, 0, 0, 0, []) := rfl
theorem tX7_inputAt_9 : tbX7_inputAt 9 = (.ifCond .ge 5, 12, 14, 0, 0, 0, []) := rfl
theorem tX7_inputAt_12 : tbX7_inputAt 12 = (.iconst (-1), 13, 0, 0, 0, -1, []) := rfl
theorem tX7_inputAt_13 : tbX7_inputAt 13 = (.ireturn, 14, 0, 0, 0, 0, []) := rfl
theorem tX7_inputAt_14 : tbX7_inputAt 14 = (.iload_n 2, 15, 0, 0, 0, 0, []) := rfl
theorem tX7_inputAt_15 : tbX7_inputAt 15 = (.aload_n 0, 16, 0, 0, 0, 0, []) := rfl
theorem tX7_inputAt_16 : tbX7_inputAt 16 = (.getfield 7, 19, 7, 0, 0, 0, [(0, 0)]) := rfl
theorem tX7_inputAt_19 : tbX7_inputAt 19 = (.iload_n 1, 20, 0, 0, 0, 0, []) := rfl
theorem tX7_inputAt_20 : tbX7_inputAt 20 = (.invokestatic 39, 23, 98, 1, 0, 0, []) := rfl
theorem tX7_inputAt_23 : tbX7_inputAt 23 = (.iconst 3, 24, 0, 0, 0, 3, []) := rfl
theorem tX7_inputAt_24 : tbX7_inputAt 24 = (.iadd, 25, 0, 0, 0, 0, []) := rfl
theorem tX7_inputAt_25 : tbX7_inputAt 25 = (.iaload, 26, 0, 0, 0, 0, []) := rfl
theorem tX7_inputAt_26 : tbX7_inputAt 26 = (.if_icmp .ge 19, 29, 45, 0, 0, 0, []) := rfl
theorem tX7_inputAt_29 : tbX7_inputAt 29 = (.aload_n 0, 30, 0, 0, 0, 0, []) := rfl
theorem tX7_inputAt_30 : tbX7_inputAt 30 = (.getfield 7, 33, 7, 0, 0, 0, [(0, 0)]) := rfl
theorem tX7_inputAt_33 : tbX7_inputAt 33 = (.iload_n 1, 34, 0, 0, 0, 0, []) := rfl
theorem tX7_inputAt_34 : tbX7_inputAt 34 = (.invokestatic 39, 37, 98, 1, 0, 0, []) := rfl
theorem tX7_inputAt_37 : tbX7_inputAt 37 = (.iconst 4, 38, 0, 0, 0, 4, []) := rfl
theorem tX7_inputAt_38 : tbX7_inputAt 38 = (.iadd, 39, 0, 0, 0, 0, []) := rfl
theorem tX7_inputAt_39 : tbX7_inputAt 39 = (.iload_n 2, 40, 0, 0, 0, 0, []) := rfl
theorem tX7_inputAt_40 : tbX7_inputAt 40 = (.iadd, 41, 0, 0, 0, 0, []) := rfl
theorem tX7_inputAt_41 : tbX7_inputAt 41 = (.iaload, 42, 0, 0, 0, 0, []) := rfl
theorem tX7_inputAt_42 : tbX7_inputAt 42 = (.goto 5, 45, 47, 0, 0, 0, []) := rfl
theorem tX7_inputAt_45 : tbX7_inputAt 45 = (.bipush (-4), 47, 0, 0, 0, -4, []) := rfl
theorem tX7_inputAt_47 : tbX7_inputAt 47 = (.ireturn, 48, 0, 0, 0, 0, []) := rfl
def ltX7_goEdge : List (Nat × pm_E) := [(0, .iload_n 1, 1, 0, 0, 0, 0, []), (1, .invokestatic 57, 4, 99, 1, 0, 0, []), (4, .istore_n 2, 5, 0, 0, 0, 0, []), (5, .aload_n 0, 6, 0, 0, 0, 0, []), (6, .getfield 7, 9, 7, 0, 0, 0, [(0, 0)]), (9, .iconst 5, 10, 0, 0, 0, 5, []), (10, .dup2, 11, 0, 0, 0, 0, []), (11, .iaload, 12, 0, 0, 0, 0, []), (12, .iconst 1, 13, 0, 0, 0, 1, []), (13, .iadd, 14, 0, 0, 0, 0, []), (14, .iastore, 15, 0, 0, 0, 0, []), (15, .aload_n 0, 16, 0, 0, 0, 0, []), (16, .getfield 7, 19, 7, 0, 0, 0, [(0, 0)]), (19, .iload_n 2, 20, 0, 0, 0, 0, []), (20, .bipush 6, 22, 0, 0, 0, 6, []), (22, .iadd, 23, 0, 0, 0, 0, []), (23, .dup2, 24, 0, 0, 0, 0, []), (24, .iaload, 25, 0, 0, 0, 0, []), (25, .iconst 1, 26, 0, 0, 0, 1, []), (26, .iadd, 27, 0, 0, 0, 0, []), (27, .iastore, 28, 0, 0, 0, 0, []), (28, .aload_n 0, 29, 0, 0, 0, 0, []), (29, .getfield 7, 32, 7, 0, 0, 0, [(0, 0)]), (32, .iload_n 2, 33, 0, 0, 0, 0, []), (33, .iconst 3, 34, 0, 0, 0, 3, []), (34, .iadd, 35, 0, 0, 0, 0, []), (35, .iaload, 36, 0, 0, 0, 0, []), (36, .iconst 1, 37, 0, 0, 0, 1, []), (37, .if_icmp .ne 29, 40, 66, 0, 0, 0, []), (40, .aload_n 0, 41, 0, 0, 0, 0, []), (41, .getfield 7, 44, 7, 0, 0, 0, [(0, 0)]), (44, .bipush 6, 46, 0, 0, 0, 6, []), (46, .dup2, 47, 0, 0, 0, 0, []), (47, .iaload, 48, 0, 0, 0, 0, []), (48, .iconst 1, 49, 0, 0, 0, 1, []), (49, .iadd, 50, 0, 0, 0, 0, []), (50, .iastore, 51, 0, 0, 0, 0, []), (51, .aload_n 0, 52, 0, 0, 0, 0, []), (52, .getfield 7, 55, 7, 0, 0, 0, [(0, 0)]), (55, .iload_n 2, 56, 0, 0, 0, 0, []), (56, .bipush 7, 58, 0, 0, 0, 7, []), (58, .iadd, 59, 0, 0, 0, 0, []), (59, .dup2, 60, 0, 0, 0, 0, []), (60, .iaload, 61, 0, 0, 0, 0, []), (61, .iconst 1, 62, 0, 0, 0, 1, []), (62, .iadd, 63, 0, 0, 0, 0, []), (63, .iastore, 64, 0, 0, 0, 0, []), (64, .iconst 0, 65, 0, 0, 0, 0, []), (65, .ireturn, 66, 0, 0, 0, 0, []), (66, .aload_n 0, 67, 0, 0, 0, 0, []), (67, .getfield 7, 70, 7, 0, 0, 0, [(0, 0)]), (70, .iload_n 2, 71, 0, 0, 0, 0, []), (71, .iconst 3, 72, 0, 0, 0, 3, []), (72, .iadd, 73, 0, 0, 0, 0, []), (73, .iconst 1, 74, 0, 0, 0, 1, []), (74, .iastore, 75, 0, 0, 0, 0, []), (75, .aload_n 0, 76, 0, 0, 0, 0, []), (76, .getfield 7, 79, 7, 0, 0, 0, [(0, 0)]), (79, .iload_n 2, 80, 0, 0, 0, 0, []), (80, .bipush 10, 82, 0, 0, 0, 10, []), (82, .iadd, 83, 0, 0, 0, 0, []), (83, .aload_n 0, 84, 0, 0, 0, 0, []), (84, .getfield 7, 87, 7, 0, 0, 0, [(0, 0)]), (87, .iconst 0, 88, 0, 0, 0, 0, []), (88, .iaload, 89, 0, 0, 0, 0, []), (89, .iastore, 90, 0, 0, 0, 0, []), (90, .iconst 1, 91, 0, 0, 0, 1, []), (91, .ireturn, 92, 0, 0, 0, 0, [])]
def tbX7_goEdge : Nat → pm_E := pm_lk ltX7_goEdge
theorem okX7_goEdge : ∀ pc, (tbX7_goEdge pc).1 = .nop ∨ pm_ok mX7_goEdge pw_Ms pc (tbX7_goEdge pc) := pm_lk_ok (by decide +kernel)
theorem nr_X7_goEdge : mX7_goEdge.2.2.2 = (some .int) := rfl
theorem tX7_goEdge_0 : tbX7_goEdge 0 = (.iload_n 1, 1, 0, 0, 0, 0, []) := rfl
theorem tX7_goEdge_1 : tbX7_goEdge 1 = (.invokestatic 57, 4, 99, 1, 0, 0, []) := rfl
theorem tX7_goEdge_4 : tbX7_goEdge 4 = (.istore_n 2, 5, 0, 0, 0, 0, []) := rfl
theorem tX7_goEdge_5 : tbX7_goEdge 5 = (.aload_n 0, 6, 0, 0, 0, 0, []) := rfl
theorem tX7_goEdge_6 : tbX7_goEdge 6 = (.getfield 7, 9, 7, 0, 0, 0, [(0, 0)]) := rfl
theorem tX7_goEdge_9 : tbX7_goEdge 9 = (.iconst 5, 10, 0, 0, 0, 5, []) := rfl
theorem tX7_goEdge_10 : tbX7_goEdge 10 = (.dup2, 11, 0, 0, 0, 0, []) := rfl
theorem tX7_goEdge_11 : tbX7_goEdge 11 = (.iaload, 12, 0, 0, 0, 0, []) := rfl
theorem tX7_goEdge_12 : tbX7_goEdge 12 = (.iconst 1, 13, 0, 0, 0, 1, []) := rfl
theorem tX7_goEdge_13 : tbX7_goEdge 13 = (.iadd, 14, 0, 0, 0, 0, []) := rfl
theorem tX7_goEdge_14 : tbX7_goEdge 14 = (.iastore, 15, 0, 0, 0, 0, []) := rfl
theorem tX7_goEdge_15 : tbX7_goEdge 15 = (.aload_n 0, 16, 0, 0, 0, 0, []) := rfl
theorem tX7_goEdge_16 : tbX7_goEdge 16 = (.getfield 7, 19, 7, 0, 0, 0, [(0, 0)]) := rfl
theorem tX7_goEdge_19 : tbX7_goEdge 19 = (.iload_n 2, 20, 0, 0, 0, 0, []) := rfl
theorem tX7_goEdge_20 : tbX7_goEdge 20 = (.bipush 6, 22, 0, 0, 0, 6, []) := rfl
theorem tX7_goEdge_22 : tbX7_goEdge 22 = (.iadd, 23, 0, 0, 0, 0, []) := rfl
theorem tX7_goEdge_23 : tbX7_goEdge 23 = (.dup2, 24, 0, 0, 0, 0, []) := rfl
theorem tX7_goEdge_24 : tbX7_goEdge 24 = (.iaload, 25, 0, 0, 0, 0, []) := rfl
theorem tX7_goEdge_25 : tbX7_goEdge 25 = (.iconst 1, 26, 0, 0, 0, 1, []) := rfl
theorem tX7_goEdge_26 : tbX7_goEdge 26 = (.iadd, 27, 0, 0, 0, 0, []) := rfl
theorem tX7_goEdge_27 : tbX7_goEdge 27 = (.iastore, 28, 0, 0, 0, 0, []) := rfl
theorem tX7_goEdge_28 : tbX7_goEdge 28 = (.aload_n 0, 29, 0, 0, 0, 0, []) := rfl
theorem tX7_goEdge_29 : tbX7_goEdge 29 = (.getfield 7, 32, 7, 0, 0, 0, [(0, 0)]) := rfl
theorem tX7_goEdge_32 : tbX7_goEdge 32 = (.iload_n 2, 33, 0, 0, 0, 0, []) := rfl
theorem tX7_goEdge_33 : tbX7_goEdge 33 = (.iconst 3, 34, 0, 0, 0, 3, []) := rfl
theorem tX7_goEdge_34 : tbX7_goEdge 34 = (.iadd, 35, 0, 0, 0, 0, []) := rfl
theorem tX7_goEdge_35 : tbX7_goEdge 35 = (.iaload, 36, 0, 0, 0, 0, []) := rfl
theorem tX7_goEdge_36 : tbX7_goEdge 36 = (.iconst 1, 37, 0, 0, 0, 1, []) := rfl
theorem tX7_goEdge_37 : tbX7_goEdge 37 = (.if_icmp .ne 29, 40, 66, 0, 0, 0, []) := rfl
theorem tX7_goEdge_40 : tbX7_goEdge 40 = (.aload_n 0, 41, 0, 0, 0, 0, []) := rfl
theorem tX7_goEdge_41 : tbX7_goEdge 41 = (.getfield 7, 44, 7, 0, 0, 0, [(0, 0)]) := rfl
theorem tX7_goEdge_44 : tbX7_goEdge 44 = (.bipush 6, 46, 0, 0, 0, 6, []) := rfl
theorem tX7_goEdge_46 : tbX7_goEdge 46 = (.dup2, 47, 0, 0, 0, 0, []) := rfl
theorem tX7_goEdge_47 : tbX7_goEdge 47 = (.iaload, 48, 0, 0, 0, 0, []) := rfl
theorem tX7_goEdge_48 : tbX7_goEdge 48 = (.iconst 1, 49, 0, 0, 0, 1, []) := rfl
theorem tX7_goEdge_49 : tbX7_goEdge 49 = (.iadd, 50, 0, 0, 0, 0, []) := rfl
theorem tX7_goEdge_50 : tbX7_goEdge 50 = (.iastore, 51, 0, 0, 0, 0, []) := rfl
theorem tX7_goEdge_51 : tbX7_goEdge 51 = (.aload_n 0, 52, 0, 0, 0, 0, []) := rfl
theorem tX7_goEdge_52 : tbX7_goEdge 52 = (.getfield 7, 55, 7, 0, 0, 0, [(0, 0)]) := rfl
theorem tX7_goEdge_55 : tbX7_goEdge 55 = (.iload_n 2, 56, 0, 0, 0, 0, []) := rfl
theorem tX7_goEdge_56 : tbX7_goEdge 56 = (.bipush 7, 58, 0, 0, 0, 7, []) := rfl
theorem tX7_goEdge_58 : tbX7_goEdge 58 = (.iadd, 59, 0, 0, 0, 0, []) := rfl
theorem tX7_goEdge_59 : tbX7_goEdge 59 = (.dup2, 60, 0, 0, 0, 0, []) := rfl
theorem tX7_goEdge_60 : tbX7_goEdge 60 = (.iaload, 61, 0, 0, 0, 0, []) := rfl
theorem tX7_goEdge_61 : tbX7_goEdge 61 = (.iconst 1, 62, 0, 0, 0, 1, []) := rfl
theorem tX7_goEdge_62 : tbX7_goEdge 62 = (.iadd, 63, 0, 0, 0, 0, []) := rfl
theorem tX7_goEdge_63 : tbX7_goEdge 63 = (.iastore, 64, 0, 0, 0, 0, []) := rfl
theorem tX7_goEdge_64 : tbX7_goEdge 64 = (.iconst 0, 65, 0, 0, 0, 0, []) := rfl
theorem tX7_goEdge_65 : tbX7_goEdge 65 = (.ireturn, 66, 0, 0, 0, 0, []) := rfl
theorem tX7_goEdge_66 : tbX7_goEdge 66 = (.aload_n 0, 67, 0, 0, 0, 0, []) := rfl
theorem tX7_goEdge_67 : tbX7_goEdge 67 = (.getfield 7, 70, 7, 0, 0, 0, [(0, 0)]) := rfl
theorem tX7_goEdge_70 : tbX7_goEdge 70 = (.iload_n 2, 71, 0, 0, 0, 0, []) := rfl
theorem tX7_goEdge_71 : tbX7_goEdge 71 = (.iconst 3, 72, 0, 0, 0, 3, []) := rfl
theorem tX7_goEdge_72 : tbX7_goEdge 72 = (.iadd, 73, 0, 0, 0, 0, []) := rfl
theorem tX7_goEdge_73 : tbX7_goEdge 73 = (.iconst 1, 74, 0, 0, 0, 1, []) := rfl
theorem tX7_goEdge_74 : tbX7_goEdge 74 = (.iastore, 75, 0, 0, 0, 0, []) := rfl
theorem tX7_goEdge_75 : tbX7_goEdge 75 = (.aload_n 0, 76, 0, 0, 0, 0, []) := rfl
theorem tX7_goEdge_76 : tbX7_goEdge 76 = (.getfield 7, 79, 7, 0, 0, 0, [(0, 0)]) := rfl
theorem tX7_goEdge_79 : tbX7_goEdge 79 = (.iload_n 2, 80, 0, 0, 0, 0, []) := rfl
theorem tX7_goEdge_80 : tbX7_goEdge 80 = (.bipush 10, 82, 0, 0, 0, 10, []) := rfl
theorem tX7_goEdge_82 : tbX7_goEdge 82 = (.iadd, 83, 0, 0, 0, 0, []) := rfl
theorem tX7_goEdge_83 : tbX7_goEdge 83 = (.aload_n 0, 84, 0, 0, 0, 0, []) := rfl
theorem tX7_goEdge_84 : tbX7_goEdge 84 = (.getfield 7, 87, 7, 0, 0, 0, [(0, 0)]) := rfl
theorem tX7_goEdge_87 : tbX7_goEdge 87 = (.iconst 0, 88, 0, 0, 0, 0, []) := rfl
theorem tX7_goEdge_88 : tbX7_goEdge 88 = (.iaload, 89, 0, 0, 0, 0, []) := rfl
theorem tX7_goEdge_89 : tbX7_goEdge 89 = (.iastore, 90, 0, 0, 0, 0, []) := rfl
theorem tX7_goEdge_90 : tbX7_goEdge 90 = (.iconst 1, 91, 0, 0, 0, 1, []) := rfl
theorem tX7_goEdge_91 : tbX7_goEdge 91 = (.ireturn, 92, 0, 0, 0, 0, []) := rfl
def ltX7_edge : List (Nat × pm_E) := [(0, .aload_n 0, 1, 0, 0, 0, 0, []), (1, .iload_n 1, 2, 0, 0, 0, 0, []), (2, .invokevirtual 64, 5, 101, 1, 7, 0, []), (5, .ifCond .ne 5, 8, 10, 0, 0, 0, []), (8, .iconst (-1), 9, 0, 0, 0, -1, []), (9, .ireturn, 10, 0, 0, 0, 0, []), (10, .aload_n 0, 11, 0, 0, 0, 0, []), (11, .getfield 7, 14, 7, 0, 0, 0, [(0, 0)]), (14, .iload_n 1, 15, 0, 0, 0, 0, []), (15, .invokestatic 57, 18, 99, 1, 0, 0, []), (18, .iconst 2, 19, 0, 0, 0, 2, []), (19, .iadd, 20, 0, 0, 0, 0, []), (20, .iaload, 21, 0, 0, 0, 0, []), (21, .iconst 1, 22, 0, 0, 0, 1, []), (22, .if_icmp .ne 6, 25, 28, 0, 0, 0, []), (25, .bipush (-2), 27, 0, 0, 0, -2, []), (27, .ireturn, 28, 0, 0, 0, 0, []), (28, .aload_n 0, 29, 0, 0, 0, 0, []), (29, .invokevirtual 50, 32, 95, 0, 7, 0, []), (32, .aload_n 0, 33, 0, 0, 0, 0, []), (33, .iload_n 1, 34, 0, 0, 0, 0, []), (34, .invokevirtual 96, 37, 125, 1, 7, 0, []), (37, .ireturn, 38, 0, 0, 0, 0, [])]
def tbX7_edge : Nat → pm_E := pm_lk ltX7_edge
theorem okX7_edge : ∀ pc, (tbX7_edge pc).1 = .nop ∨ pm_ok mX7_edge pw_Ms pc (tbX7_edge pc) := pm_lk_ok (by decide +kernel)
theorem nr_X7_edge : mX7_edge.2.2.2 = (some .int) := rfl
theorem tX7_edge_0 : tbX7_edge 0 = (.aload_n 0, 1, 0, 0, 0, 0, []) := rfl
theorem tX7_edge_1 : tbX7_edge 1 = (.iload_n 1, 2, 0, 0, 0, 0, []) := rfl
theorem tX7_edge_2 : tbX7_edge 2 = (.invokevirtual 64, 5, 101, 1, 7, 0, []) := rfl
theorem tX7_edge_5 : tbX7_edge 5 = (.ifCond .ne 5, 8, 10, 0, 0, 0, []) := rfl
theorem tX7_edge_8 : tbX7_edge 8 = (.iconst (-1), 9, 0, 0, 0, -1, []) := rfl
theorem tX7_edge_9 : tbX7_edge 9 = (.ireturn, 10, 0, 0, 0, 0, []) := rfl
theorem tX7_edge_10 : tbX7_edge 10 = (.aload_n 0, 11, 0, 0, 0, 0, []) := rfl
theorem tX7_edge_11 : tbX7_edge 11 = (.getfield 7, 14, 7, 0, 0, 0, [(0, 0)]) := rfl
theorem tX7_edge_14 : tbX7_edge 14 = (.iload_n 1, 15, 0, 0, 0, 0, []) := rfl
theorem tX7_edge_15 : tbX7_edge 15 = (.invokestatic 57, 18, 99, 1, 0, 0, []) := rfl
theorem tX7_edge_18 : tbX7_edge 18 = (.iconst 2, 19, 0, 0, 0, 2, []) := rfl
theorem tX7_edge_19 : tbX7_edge 19 = (.iadd, 20, 0, 0, 0, 0, []) := rfl
theorem tX7_edge_20 : tbX7_edge 20 = (.iaload, 21, 0, 0, 0, 0, []) := rfl
theorem tX7_edge_21 : tbX7_edge 21 = (.iconst 1, 22, 0, 0, 0, 1, []) := rfl
theorem tX7_edge_22 : tbX7_edge 22 = (.if_icmp .ne 6, 25, 28, 0, 0, 0, []) := rfl
theorem tX7_edge_25 : tbX7_edge 25 = (.bipush (-2), 27, 0, 0, 0, -2, []) := rfl
theorem tX7_edge_27 : tbX7_edge 27 = (.ireturn, 28, 0, 0, 0, 0, []) := rfl
theorem tX7_edge_28 : tbX7_edge 28 = (.aload_n 0, 29, 0, 0, 0, 0, []) := rfl
theorem tX7_edge_29 : tbX7_edge 29 = (.invokevirtual 50, 32, 95, 0, 7, 0, []) := rfl
theorem tX7_edge_32 : tbX7_edge 32 = (.aload_n 0, 33, 0, 0, 0, 0, []) := rfl
theorem tX7_edge_33 : tbX7_edge 33 = (.iload_n 1, 34, 0, 0, 0, 0, []) := rfl
theorem tX7_edge_34 : tbX7_edge 34 = (.invokevirtual 96, 37, 125, 1, 7, 0, []) := rfl
theorem tX7_edge_37 : tbX7_edge 37 = (.ireturn, 38, 0, 0, 0, 0, []) := rfl
def ltX7_canLevel : List (Nat × pm_E) := [(0, .aload_n 0, 1, 0, 0, 0, 0, []), (1, .getfield 7, 4, 7, 0, 0, 0, [(0, 0)]), (4, .iload_n 1, 5, 0, 0, 0, 0, []), (5, .invokestatic 57, 8, 99, 1, 0, 0, []), (8, .iconst 2, 9, 0, 0, 0, 2, []), (9, .iadd, 10, 0, 0, 0, 0, []), (10, .iaload, 11, 0, 0, 0, 0, []), (11, .iconst 1, 12, 0, 0, 0, 1, []), (12, .if_icmp .ne 22, 15, 34, 0, 0, 0, []), (15, .aload_n 0, 16, 0, 0, 0, 0, []), (16, .getfield 7, 19, 7, 0, 0, 0, [(0, 0)]), (19, .iload_n 1, 20, 0, 0, 0, 0, []), (20, .invokestatic 57, 23, 99, 1, 0, 0, []), (23, .iconst 3, 24, 0, 0, 0, 3, []), (24, .iadd, 25, 0, 0, 0, 0, []), (25, .iaload, 26, 0, 0, 0, 0, []), (26, .iload_n 2, 27, 0, 0, 0, 0, []), (27, .if_icmp .eq 7, 30, 34, 0, 0, 0, []), (30, .iconst 1, 31, 0, 0, 0, 1, []), (31, .goto 4, 34, 35, 0, 0, 0, []), (34, .iconst 0, 35, 0, 0, 0, 0, []), (35, .ireturn, 36, 0, 0, 0, 0, [])]
def tbX7_canLevel : Nat → pm_E := pm_lk ltX7_canLevel
theorem okX7_canLevel : ∀ pc, (tbX7_canLevel pc).1 = .nop ∨ pm_ok mX7_canLevel pw_Ms pc (tbX7_canLevel pc) := pm_lk_ok (by decide +kernel)
theorem nr_X7_canLevel : mX7_canLevel.2.2.2 = (some .boolean) := rfl
theorem tX7_canLevel_0 : tbX7_canLevel 0 = (.aload_n 0, 1, 0, 0, 0, 0, []) := rfl
theorem tX7_canLevel_1 : tbX7_canLevel 1 = (.getfield 7, 4, 7, 0, 0, 0, [(0, 0)]) := rfl
theorem tX7_canLevel_4 : tbX7_canLevel 4 = (.iload_n 1, 5, 0, 0, 0, 0, []) := rfl
theorem tX7_canLevel_5 : tbX7_canLevel 5 = (.invokestatic 57, 8, 99, 1, 0, 0, []) := rfl
theorem tX7_canLevel_8 : tbX7_canLevel 8 = (.iconst 2, 9, 0, 0, 0, 2, []) := rfl
theorem tX7_canLevel_9 : tbX7_canLevel 9 = (.iadd, 10, 0, 0, 0, 0, []) := rfl
theorem tX7_canLevel_10 : tbX7_canLevel 10 = (.iaload, 11, 0, 0, 0, 0, []) := rfl
theorem tX7_canLevel_11 : tbX7_canLevel 11 = (.iconst 1, 12, 0, 0, 0, 1, []) := rfl
theorem tX7_canLevel_12 : tbX7_canLevel 12 = (.if_icmp .ne 22, 15, 34, 0, 0, 0, []) := rfl
theorem tX7_canLevel_15 : tbX7_canLevel 15 = (.aload_n 0, 16, 0, 0, 0, 0, []) := rfl
theorem tX7_canLevel_16 : tbX7_canLevel 16 = (.getfield 7, 19, 7, 0, 0, 0, [(0, 0)]) := rfl
theorem tX7_canLevel_19 : tbX7_canLevel 19 = (.iload_n 1, 20, 0, 0, 0, 0, []) := rfl
theorem tX7_canLevel_20 : tbX7_canLevel 20 = (.invokestatic 57, 23, 99, 1, 0, 0, []) := rfl
theorem tX7_canLevel_23 : tbX7_canLevel 23 = (.iconst 3, 24, 0, 0, 0, 3, []) := rfl
theorem tX7_canLevel_24 : tbX7_canLevel 24 = (.iadd, 25, 0, 0, 0, 0, []) := rfl
theorem tX7_canLevel_25 : tbX7_canLevel 25 = (.iaload, 26, 0, 0, 0, 0, []) := rfl
theorem tX7_canLevel_26 : tbX7_canLevel 26 = (.iload_n 2, 27, 0, 0, 0, 0, []) := rfl
theorem tX7_canLevel_27 : tbX7_canLevel 27 = (.if_icmp .eq 7, 30, 34, 0, 0, 0, []) := rfl
theorem tX7_canLevel_30 : tbX7_canLevel 30 = (.iconst 1, 31, 0, 0, 0, 1, []) := rfl
theorem tX7_canLevel_31 : tbX7_canLevel 31 = (.goto 4, 34, 35, 0, 0, 0, []) := rfl
theorem tX7_canLevel_34 : tbX7_canLevel 34 = (.iconst 0, 35, 0, 0, 0, 0, []) := rfl
theorem tX7_canLevel_35 : tbX7_canLevel 35 = (.ireturn, 36, 0, 0, 0, 0, []) := rfl
def ltX7_level : List (Nat × pm_E) := [(0, .aload_n 0, 1, 0, 0, 0, 0, []), (1, .iload_n 1, 2, 0, 0, 0, 0, []), (2, .invokevirtual 64, 5, 101, 1, 7, 0, []), (5, .ifCond .eq 10, 8, 15, 0, 0, 0, []), (8, .iload_n 2, 9, 0, 0, 0, 0, []), (9, .invokestatic 47, 12, 102, 1, 0, 0, []), (12, .ifCond .ne 5, 15, 17, 0, 0, 0, []), (15, .iconst (-1), 16, 0, 0, 0, -1, []), (16, .ireturn, 17, 0, 0, 0, 0, []), (17, .aload_n 0, 18, 0, 0, 0, 0, []), (18, .iload_n 1, 19, 0, 0, 0, 0, []), (19, .iload_n 2, 20, 0, 0, 0, 0, []), (20, .invokevirtual 99, 23, 127, 2, 7, 0, []), (23, .ifCond .ne 6, 26, 29, 0, 0, 0, []), (26, .bipush (-2), 28, 0, 0, 0, -2, []), (28, .ireturn, 29, 0, 0, 0, 0, []), (29, .aload_n 0, 30, 0, 0, 0, 0, []), (30, .invokevirtual 50, 33, 95, 0, 7, 0, []), (33, .aload_n 0, 34, 0, 0, 0, 0, []), (34, .getfield 7, 37, 7, 0, 0, 0, [(0, 0)]), (37, .iload_n 1, 38, 0, 0, 0, 0, []), (38, .invokestatic 57, 41, 99, 1, 0, 0, []), (41, .iconst 3, 42, 0, 0, 0, 3, []), (42, .iadd, 43, 0, 0, 0, 0, []), (43, .iload_n 2, 44, 0, 0, 0, 0, []), (44, .iastore, 45, 0, 0, 0, 0, []), (45, .aload_n 0, 46, 0, 0, 0, 0, []), (46, .iconst 0, 47, 0, 0, 0, 0, []), (47, .invokevirtual 67, 50, 139, 1, 7, 0, []), (50, .invokestatic 70, 53, 108, 1, 0, 0, []), (53, .ireturn, 54, 0, 0, 0, 0, [])]
def tbX7_level : Nat → pm_E := pm_lk ltX7_level
theorem okX7_level : ∀ pc, (tbX7_level pc).1 = .nop ∨ pm_ok mX7_level pw_Ms pc (tbX7_level pc) := pm_lk_ok (by decide +kernel)
theorem nr_X7_level : mX7_level.2.2.2 = (some .int) := rfl
theorem tX7_level_0 : tbX7_level 0 = (.aload_n 0, 1, 0, 0, 0, 0, []) := rfl
theorem tX7_level_1 : tbX7_level 1 = (.iload_n 1, 2, 0, 0, 0, 0, []) := rfl
theorem tX7_level_2 : tbX7_level 2 = (.invokevirtual 64, 5, 101, 1, 7, 0, []) := rfl
theorem tX7_level_5 : tbX7_level 5 = (.ifCond .eq 10, 8, 15, 0, 0, 0, []) := rfl
theorem tX7_level_8 : tbX7_level 8 = (.iload_n 2, 9, 0, 0, 0, 0, []) := rfl
theorem tX7_level_9 : tbX7_level 9 = (.invokestatic 47, 12, 102, 1, 0, 0, []) := rfl
theorem tX7_level_12 : tbX7_level 12 = (.ifCond .ne 5, 15, 17, 0, 0, 0, []) := rfl
theorem tX7_level_15 : tbX7_level 15 = (.iconst (-1), 16, 0, 0, 0, -1, []) := rfl
theorem tX7_level_16 : tbX7_level 16 = (.ireturn, 17, 0, 0, 0, 0, []) := rfl
theorem tX7_level_17 : tbX7_level 17 = (.aload_n 0, 18, 0, 0, 0, 0, []) := rfl
theorem tX7_level_18 : tbX7_level 18 = (.iload_n 1, 19, 0, 0, 0, 0, []) := rfl
theorem tX7_level_19 : tbX7_level 19 = (.iload_n 2, 20, 0, 0, 0, 0, []) := rfl
theorem tX7_level_20 : tbX7_level 20 = (.invokevirtual 99, 23, 127, 2, 7, 0, []) := rfl
theorem tX7_level_23 : tbX7_level 23 = (.ifCond .ne 6, 26, 29, 0, 0, 0, []) := rfl
theorem tX7_level_26 : tbX7_level 26 = (.bipush (-2), 28, 0, 0, 0, -2, []) := rfl
theorem tX7_level_28 : tbX7_level 28 = (.ireturn, 29, 0, 0, 0, 0, []) := rfl
theorem tX7_level_29 : tbX7_level 29 = (.aload_n 0, 30, 0, 0, 0, 0, []) := rfl
theorem tX7_level_30 : tbX7_level 30 = (.invokevirtual 50, 33, 95, 0, 7, 0, []) := rfl
theorem tX7_level_33 : tbX7_level 33 = (.aload_n 0, 34, 0, 0, 0, 0, []) := rfl
theorem tX7_level_34 : tbX7_level 34 = (.getfield 7, 37, 7, 0, 0, 0, [(0, 0)]) := rfl
theorem tX7_level_37 : tbX7_level 37 = (.iload_n 1, 38, 0, 0, 0, 0, []) := rfl
theorem tX7_level_38 : tbX7_level 38 = (.invokestatic 57, 41, 99, 1, 0, 0, []) := rfl
theorem tX7_level_41 : tbX7_level 41 = (.iconst 3, 42, 0, 0, 0, 3, []) := rfl
theorem tX7_level_42 : tbX7_level 42 = (.iadd, 43, 0, 0, 0, 0, []) := rfl
theorem tX7_level_43 : tbX7_level 43 = (.iload_n 2, 44, 0, 0, 0, 0, []) := rfl
theorem tX7_level_44 : tbX7_level 44 = (.iastore, 45, 0, 0, 0, 0, []) := rfl
theorem tX7_level_45 : tbX7_level 45 = (.aload_n 0, 46, 0, 0, 0, 0, []) := rfl
theorem tX7_level_46 : tbX7_level 46 = (.iconst 0, 47, 0, 0, 0, 0, []) := rfl
theorem tX7_level_47 : tbX7_level 47 = (.invokevirtual 67, 50, 139, 1, 7, 0, []) := rfl
theorem tX7_level_50 : tbX7_level 50 = (.invokestatic 70, 53, 108, 1, 0, 0, []) := rfl
theorem tX7_level_53 : tbX7_level 53 = (.ireturn, 54, 0, 0, 0, 0, []) := rfl
def ltX7_take : List (Nat × pm_E) := [(0, .aload_n 0, 1, 0, 0, 0, 0, []), (1, .getfield 7, 4, 7, 0, 0, 0, [(0, 0)]), (4, .bipush 10, 6, 0, 0, 0, 10, []), (6, .iaload, 7, 0, 0, 0, 0, []), (7, .iconst 4, 8, 0, 0, 0, 4, []), (8, .if_icmp .ne 6, 11, 14, 0, 0, 0, []), (11, .bipush (-3), 13, 0, 0, 0, -3, []), (13, .ireturn, 14, 0, 0, 0, 0, []), (14, .aload_n 0, 15, 0, 0, 0, 0, []), (15, .invokevirtual 102, 18, 116, 0, 7, 0, []), (18, .istore_n 1, 19, 0, 0, 0, 0, []), (19, .iload_n 1, 20, 0, 0, 0, 0, []), (20, .ifCond .ge 6, 23, 26, 0, 0, 0, []), (23, .bipush (-4), 25, 0, 0, 0, -4, []), (25, .ireturn, 26, 0, 0, 0, 0, []), (26, .aload_n 0, 27, 0, 0, 0, 0, []), (27, .invokevirtual 50, 30, 95, 0, 7, 0, []), (30, .aload_n 0, 31, 0, 0, 0, 0, []), (31, .iload_n 1, 32, 0, 0, 0, 0, []), (32, .invokevirtual 106, 35, 119, 1, 7, 0, []), (35, .iload_n 1, 36, 0, 0, 0, 0, []), (36, .ireturn, 37, 0, 0, 0, 0, [])]
def tbX7_take : Nat → pm_E := pm_lk ltX7_take
theorem okX7_take : ∀ pc, (tbX7_take pc).1 = .nop ∨ pm_ok mX7_take pw_Ms pc (tbX7_take pc) := pm_lk_ok (by decide +kernel)
theorem nr_X7_take : mX7_take.2.2.2 = (some .int) := rfl
theorem tX7_take_0 : tbX7_take 0 = (.aload_n 0, 1, 0, 0, 0, 0, []) := rfl
theorem tX7_take_1 : tbX7_take 1 = (.getfield 7, 4, 7, 0, 0, 0, [(0, 0)]) := rfl
theorem tX7_take_4 : tbX7_take 4 = (.bipush 10, 6, 0, 0, 0, 10, []) := rfl
theorem tX7_take_6 : tbX7_take 6 = (.iaload, 7, 0, 0, 0, 0, []) := rfl
theorem tX7_take_7 : tbX7_take 7 = (.iconst 4, 8, 0, 0, 0, 4, []) := rfl
theorem tX7_take_8 : tbX7_take 8 = (.if_icmp .ne 6, 11, 14, 0, 0, 0, []) := rfl
theorem tX7_take_11 : tbX7_take 11 = (.bipush (-3), 13, 0, 0, 0, -3, []) := rfl
theorem tX7_take_13 : tbX7_take 13 = (.ireturn, 14, 0, 0, 0, 0, []) := rfl
theorem tX7_take_14 : tbX7_take 14 = (.aload_n 0, 15, 0, 0, 0, 0, []) := rfl
theorem tX7_take_15 : tbX7_take 15 = (.invokevirtual 102, 18, 116, 0, 7, 0, []) := rfl
theorem tX7_take_18 : tbX7_take 18 = (.istore_n 1, 19, 0, 0, 0, 0, []) := rfl
theorem tX7_take_19 : tbX7_take 19 = (.iload_n 1, 20, 0, 0, 0, 0, []) := rfl
theorem tX7_take_20 : tbX7_take 20 = (.ifCond .ge 6, 23, 26, 0, 0, 0, []) := rfl
theorem tX7_take_23 : tbX7_take 23 = (.bipush (-4), 25, 0, 0, 0, -4, []) := rfl
theorem tX7_take_25 : tbX7_take 25 = (.ireturn, 26, 0, 0, 0, 0, []) := rfl
theorem tX7_take_26 : tbX7_take 26 = (.aload_n 0, 27, 0, 0, 0, 0, []) := rfl
theorem tX7_take_27 : tbX7_take 27 = (.invokevirtual 50, 30, 95, 0, 7, 0, []) := rfl
theorem tX7_take_30 : tbX7_take 30 = (.aload_n 0, 31, 0, 0, 0, 0, []) := rfl
theorem tX7_take_31 : tbX7_take 31 = (.iload_n 1, 32, 0, 0, 0, 0, []) := rfl
theorem tX7_take_32 : tbX7_take 32 = (.invokevirtual 106, 35, 119, 1, 7, 0, []) := rfl
theorem tX7_take_35 : tbX7_take 35 = (.iload_n 1, 36, 0, 0, 0, 0, []) := rfl
theorem tX7_take_36 : tbX7_take 36 = (.ireturn, 37, 0, 0, 0, 0, []) := rfl
def ltX7_done : List (Nat × pm_E) := [(0, .aload_n 0, 1, 0, 0, 0, 0, []), (1, .getfield 7, 4, 7, 0, 0, 0, [(0, 0)]), (4, .bipush 10, 6, 0, 0, 0, 10, []), (6, .iaload, 7, 0, 0, 0, 0, []), (7, .ifCond .ne 6, 10, 13, 0, 0, 0, []), (10, .bipush (-2), 12, 0, 0, 0, -2, []), (12, .ireturn, 13, 0, 0, 0, 0, []), (13, .aload_n 0, 14, 0, 0, 0, 0, []), (14, .invokevirtual 50, 17, 95, 0, 7, 0, []), (17, .aload_n 0, 18, 0, 0, 0, 0, []), (18, .invokevirtual 109, 21, 120, 0, 7, 0, []), (21, .ireturn, 22, 0, 0, 0, 0, [])]
def tbX7_done : Nat → pm_E := pm_lk ltX7_done
theorem okX7_done : ∀ pc, (tbX7_done pc).1 = .nop ∨ pm_ok mX7_done pw_Ms pc (tbX7_done pc) := pm_lk_ok (by decide +kernel)
theorem nr_X7_done : mX7_done.2.2.2 = (some .int) := rfl
theorem tX7_done_0 : tbX7_done 0 = (.aload_n 0, 1, 0, 0, 0, 0, []) := rfl
theorem tX7_done_1 : tbX7_done 1 = (.getfield 7, 4, 7, 0, 0, 0, [(0, 0)]) := rfl
theorem tX7_done_4 : tbX7_done 4 = (.bipush 10, 6, 0, 0, 0, 10, []) := rfl
theorem tX7_done_6 : tbX7_done 6 = (.iaload, 7, 0, 0, 0, 0, []) := rfl
theorem tX7_done_7 : tbX7_done 7 = (.ifCond .ne 6, 10, 13, 0, 0, 0, []) := rfl
theorem tX7_done_10 : tbX7_done 10 = (.bipush (-2), 12, 0, 0, 0, -2, []) := rfl
theorem tX7_done_12 : tbX7_done 12 = (.ireturn, 13, 0, 0, 0, 0, []) := rfl
theorem tX7_done_13 : tbX7_done 13 = (.aload_n 0, 14, 0, 0, 0, 0, []) := rfl
theorem tX7_done_14 : tbX7_done 14 = (.invokevirtual 50, 17, 95, 0, 7, 0, []) := rfl
theorem tX7_done_17 : tbX7_done 17 = (.aload_n 0, 18, 0, 0, 0, 0, []) := rfl
theorem tX7_done_18 : tbX7_done 18 = (.invokevirtual 109, 21, 120, 0, 7, 0, []) := rfl
theorem tX7_done_21 : tbX7_done 21 = (.ireturn, 22, 0, 0, 0, 0, []) := rfl
def ltX7_goTicks : List (Nat × pm_E) := [(0, .iconst 0, 1, 0, 0, 0, 0, []), (1, .istore_n 2, 2, 0, 0, 0, 0, []), (2, .iconst 0, 3, 0, 0, 0, 0, []), (3, .istore_n 3, 4, 0, 0, 0, 0, []), (4, .iload_n 3, 5, 0, 0, 0, 0, []), (5, .iload_n 1, 6, 0, 0, 0, 0, []), (6, .if_icmp .ge 93, 9, 99, 0, 0, 0, []), (9, .aload_n 0, 10, 0, 0, 0, 0, []), (10, .getfield 7, 13, 7, 0, 0, 0, [(0, 0)]), (13, .iconst 0, 14, 0, 0, 0, 0, []), (14, .dup2, 15, 0, 0, 0, 0, []), (15, .iaload, 16, 0, 0, 0, 0, []), (16, .iconst 1, 17, 0, 0, 0, 1, []), (17, .iadd, 18, 0, 0, 0, 0, []), (18, .iastore, 19, 0, 0, 0, 0, []), (19, .iconst 0, 20, 0, 0, 0, 0, []), (20, .istore 4, 22, 0, 0, 0, 0, []), (22, .iload 4, 24, 0, 0, 0, 0, []), (24, .aload_n 0, 25, 0, 0, 0, 0, []), (25, .getfield 7, 28, 7, 0, 0, 0, [(0, 0)]), (28, .iconst 4, 29, 0, 0, 0, 4, []), (29, .iaload, 30, 0, 0, 0, 0, []), (30, .if_icmp .ge 63, 33, 93, 0, 0, 0, []), (33, .aload_n 0, 34, 0, 0, 0, 0, []), (34, .getfield 7, 37, 7, 0, 0, 0, [(0, 0)]), (37, .iload 4, 39, 0, 0, 0, 0, []), (39, .invokestatic 57, 42, 99, 1, 0, 0, []), (42, .iconst 4, 43, 0, 0, 0, 4, []), (43, .iadd, 44, 0, 0, 0, 0, []), (44, .iaload, 45, 0, 0, 0, 0, []), (45, .iconst 2, 46, 0, 0, 0, 2, []), (46, .if_icmp .ne 41, 49, 87, 0, 0, 0, []), (49, .aload_n 0, 50, 0, 0, 0, 0, []), (50, .getfield 7, 53, 7, 0, 0, 0, [(0, 0)]), (53, .iload 4, 55, 0, 0, 0, 0, []), (55, .invokestatic 57, 58, 99, 1, 0, 0, []), (58, .bipush 11, 60, 0, 0, 0, 11, []), (60, .iadd, 61, 0, 0, 0, 0, []), (61, .iaload, 62, 0, 0, 0, 0, []), (62, .aload_n 0, 63, 0, 0, 0, 0, []), (63, .getfield 7, 66, 7, 0, 0, 0, [(0, 0)]), (66, .iconst 0, 67, 0, 0, 0, 0, []), (67, .iaload, 68, 0, 0, 0, 0, []), (68, .if_icmp .gt 19, 71, 87, 0, 0, 0, []), (71, .aload_n 0, 72, 0, 0, 0, 0, []), (72, .getfield 7, 75, 7, 0, 0, 0, [(0, 0)]), (75, .iload 4, 77, 0, 0, 0, 0, []), (77, .invokestatic 57, 80, 99, 1, 0, 0, []), (80, .iconst 4, 81, 0, 0, 0, 4, []), (81, .iadd, 82, 0, 0, 0, 0, []), (82, .iconst 0, 83, 0, 0, 0, 0, []), (83, .iastore, 84, 0, 0, 0, 0, []), (84, .iinc 2 1, 87, 0, 0, 0, 1, []), (87, .iinc 4 1, 90, 0, 0, 0, 1, []), (90, .goto (-68), 93, 22, 0, 0, 0, []), (93, .iinc 3 1, 96, 0, 0, 0, 1, []), (96, .goto (-92), 99, 4, 0, 0, 0, []), (99, .aload_n 0, 100, 0, 0, 0, 0, []), (100, .getfield 7, 103, 7, 0, 0, 0, [(0, 0)]), (103, .bipush 9, 105, 0, 0, 0, 9, []), (105, .dup2, 106, 0, 0, 0, 0, []), (106, .iaload, 107, 0, 0, 0, 0, []), (107, .iload_n 2, 108, 0, 0, 0, 0, []), (108, .iadd, 109, 0, 0, 0, 0, []), (109, .iastore, 110, 0, 0, 0, 0, []), (110, .iload_n 2, 111, 0, 0, 0, 0, []), (111, .ireturn, 112, 0, 0, 0, 0, [])]
def tbX7_goTicks : Nat → pm_E := pm_lk ltX7_goTicks
theorem okX7_goTicks : ∀ pc, (tbX7_goTicks pc).1 = .nop ∨ pm_ok mX7_goTicks pw_Ms pc (tbX7_goTicks pc) := pm_lk_ok (by decide +kernel)
theorem nr_X7_goTicks : mX7_goTicks.2.2.2 = (some .int) := rfl
theorem tX7_goTicks_0 : tbX7_goTicks 0 = (.iconst 0, 1, 0, 0, 0, 0, []) := rfl
theorem tX7_goTicks_1 : tbX7_goTicks 1 = (.istore_n 2, 2, 0, 0, 0, 0, []) := rfl
theorem tX7_goTicks_2 : tbX7_goTicks 2 = (.iconst 0, 3, 0, 0, 0, 0, []) := rfl
theorem tX7_goTicks_3 : tbX7_goTicks 3 = (.istore_n 3, 4, 0, 0, 0, 0, []) := rfl
theorem tX7_goTicks_4 : tbX7_goTicks 4 = (.iload_n 3, 5, 0, 0, 0, 0, []) := rfl
theorem tX7_goTicks_5 : tbX7_goTicks 5 = (.iload_n 1, 6, 0, 0, 0, 0, []) := rfl
theorem tX7_goTicks_6 : tbX7_goTicks 6 = (.if_icmp .ge 93, 9, 99, 0, 0, 0, []) := rfl
theorem tX7_goTicks_9 : tbX7_goTicks 9 = (.aload_n 0, 10, 0, 0, 0, 0, []) := rfl
theorem tX7_goTicks_10 : tbX7_goTicks 10 = (.getfield 7, 13, 7, 0, 0, 0, [(0, 0)]) := rfl
theorem tX7_goTicks_13 : tbX7_goTicks 13 = (.iconst 0, 14, 0, 0, 0, 0, []) := rfl
theorem tX7_goTicks_14 : tbX7_goTicks 14 = (.dup2, 15, 0, 0, 0, 0, []) := rfl
theorem tX7_goTicks_15 : tbX7_goTicks 15 = (.iaload, 16, 0, 0, 0, 0, []) := rfl
theorem tX7_goTicks_16 : tbX7_goTicks 16 = (.iconst 1, 17, 0, 0, 0, 1, []) := rfl
theorem tX7_goTicks_17 : tbX7_goTicks 17 = (.iadd, 18, 0, 0, 0, 0, []) := rfl
theorem tX7_goTicks_18 : tbX7_goTicks 18 = (.iastore, 19, 0, 0, 0, 0, []) := rfl
theorem tX7_goTicks_19 : tbX7_goTicks 19 = (.iconst 0, 20, 0, 0, 0, 0, []) := rfl
theorem tX7_goTicks_20 : tbX7_goTicks 20 = (.istore 4, 22, 0, 0, 0, 0, []) := rfl
theorem tX7_goTicks_22 : tbX7_goTicks 22 = (.iload 4, 24, 0, 0, 0, 0, []) := rfl
theorem tX7_goTicks_24 : tbX7_goTicks 24 = (.aload_n 0, 25, 0, 0, 0, 0, []) := rfl
theorem tX7_goTicks_25 : tbX7_goTicks 25 = (.getfield 7, 28, 7, 0, 0, 0, [(0, 0)]) := rfl
theorem tX7_goTicks_28 : tbX7_goTicks 28 = (.iconst 4, 29, 0, 0, 0, 4, []) := rfl
theorem tX7_goTicks_29 : tbX7_goTicks 29 = (.iaload, 30, 0, 0, 0, 0, []) := rfl
theorem tX7_goTicks_30 : tbX7_goTicks 30 = (.if_icmp .ge 63, 33, 93, 0, 0, 0, []) := rfl
theorem tX7_goTicks_33 : tbX7_goTicks 33 = (.aload_n 0, 34, 0, 0, 0, 0, []) := rfl
theorem tX7_goTicks_34 : tbX7_goTicks 34 = (.getfield 7, 37, 7, 0, 0, 0, [(0, 0)]) := rfl
theorem tX7_goTicks_37 : tbX7_goTicks 37 = (.iload 4, 39, 0, 0, 0, 0, []) := rfl
theorem tX7_goTicks_39 : tbX7_goTicks 39 = (.invokestatic 57, 42, 99, 1, 0, 0, []) := rfl
theorem tX7_goTicks_42 : tbX7_goTicks 42 = (.iconst 4, 43, 0, 0, 0, 4, []) := rfl
theorem tX7_goTicks_43 : tbX7_goTicks 43 = (.iadd, 44, 0, 0, 0, 0, []) := rfl
theorem tX7_goTicks_44 : tbX7_goTicks 44 = (.iaload, 45, 0, 0, 0, 0, []) := rfl
theorem tX7_goTicks_45 : tbX7_goTicks 45 = (.iconst 2, 46, 0, 0, 0, 2, []) := rfl
theorem tX7_goTicks_46 : tbX7_goTicks 46 = (.if_icmp .ne 41, 49, 87, 0, 0, 0, []) := rfl
theorem tX7_goTicks_49 : tbX7_goTicks 49 = (.aload_n 0, 50, 0, 0, 0, 0, []) := rfl
theorem tX7_goTicks_50 : tbX7_goTicks 50 = (.getfield 7, 53, 7, 0, 0, 0, [(0, 0)]) := rfl
theorem tX7_goTicks_53 : tbX7_goTicks 53 = (.iload 4, 55, 0, 0, 0, 0, []) := rfl
theorem tX7_goTicks_55 : tbX7_goTicks 55 = (.invokestatic 57, 58, 99, 1, 0, 0, []) := rfl
theorem tX7_goTicks_58 : tbX7_goTicks 58 = (.bipush 11, 60, 0, 0, 0, 11, []) := rfl
theorem tX7_goTicks_60 : tbX7_goTicks 60 = (.iadd, 61, 0, 0, 0, 0, []) := rfl
theorem tX7_goTicks_61 : tbX7_goTicks 61 = (.iaload, 62, 0, 0, 0, 0, []) := rfl
theorem tX7_goTicks_62 : tbX7_goTicks 62 = (.aload_n 0, 63, 0, 0, 0, 0, []) := rfl
theorem tX7_goTicks_63 : tbX7_goTicks 63 = (.getfield 7, 66, 7, 0, 0, 0, [(0, 0)]) := rfl
theorem tX7_goTicks_66 : tbX7_goTicks 66 = (.iconst 0, 67, 0, 0, 0, 0, []) := rfl
theorem tX7_goTicks_67 : tbX7_goTicks 67 = (.iaload, 68, 0, 0, 0, 0, []) := rfl
theorem tX7_goTicks_68 : tbX7_goTicks 68 = (.if_icmp .gt 19, 71, 87, 0, 0, 0, []) := rfl
theorem tX7_goTicks_71 : tbX7_goTicks 71 = (.aload_n 0, 72, 0, 0, 0, 0, []) := rfl
theorem tX7_goTicks_72 : tbX7_goTicks 72 = (.getfield 7, 75, 7, 0, 0, 0, [(0, 0)]) := rfl
theorem tX7_goTicks_75 : tbX7_goTicks 75 = (.iload 4, 77, 0, 0, 0, 0, []) := rfl
theorem tX7_goTicks_77 : tbX7_goTicks 77 = (.invokestatic 57, 80, 99, 1, 0, 0, []) := rfl
theorem tX7_goTicks_80 : tbX7_goTicks 80 = (.iconst 4, 81, 0, 0, 0, 4, []) := rfl
theorem tX7_goTicks_81 : tbX7_goTicks 81 = (.iadd, 82, 0, 0, 0, 0, []) := rfl
theorem tX7_goTicks_82 : tbX7_goTicks 82 = (.iconst 0, 83, 0, 0, 0, 0, []) := rfl
theorem tX7_goTicks_83 : tbX7_goTicks 83 = (.iastore, 84, 0, 0, 0, 0, []) := rfl
theorem tX7_goTicks_84 : tbX7_goTicks 84 = (.iinc 2 1, 87, 0, 0, 0, 1, []) := rfl
theorem tX7_goTicks_87 : tbX7_goTicks 87 = (.iinc 4 1, 90, 0, 0, 0, 1, []) := rfl
theorem tX7_goTicks_90 : tbX7_goTicks 90 = (.goto (-68), 93, 22, 0, 0, 0, []) := rfl
theorem tX7_goTicks_93 : tbX7_goTicks 93 = (.iinc 3 1, 96, 0, 0, 0, 1, []) := rfl
theorem tX7_goTicks_96 : tbX7_goTicks 96 = (.goto (-92), 99, 4, 0, 0, 0, []) := rfl
theorem tX7_goTicks_99 : tbX7_goTicks 99 = (.aload_n 0, 100, 0, 0, 0, 0, []) := rfl
theorem tX7_goTicks_100 : tbX7_goTicks 100 = (.getfield 7, 103, 7, 0, 0, 0, [(0, 0)]) := rfl
theorem tX7_goTicks_103 : tbX7_goTicks 103 = (.bipush 9, 105, 0, 0, 0, 9, []) := rfl
theorem tX7_goTicks_105 : tbX7_goTicks 105 = (.dup2, 106, 0, 0, 0, 0, []) := rfl
theorem tX7_goTicks_106 : tbX7_goTicks 106 = (.iaload, 107, 0, 0, 0, 0, []) := rfl
theorem tX7_goTicks_107 : tbX7_goTicks 107 = (.iload_n 2, 108, 0, 0, 0, 0, []) := rfl
theorem tX7_goTicks_108 : tbX7_goTicks 108 = (.iadd, 109, 0, 0, 0, 0, []) := rfl
theorem tX7_goTicks_109 : tbX7_goTicks 109 = (.iastore, 110, 0, 0, 0, 0, []) := rfl
theorem tX7_goTicks_110 : tbX7_goTicks 110 = (.iload_n 2, 111, 0, 0, 0, 0, []) := rfl
theorem tX7_goTicks_111 : tbX7_goTicks 111 = (.ireturn, 112, 0, 0, 0, 0, []) := rfl
def ltX7_tick : List (Nat × pm_E) := [(0, .iload_n 1, 1, 0, 0, 0, 0, []), (1, .iconst 1, 2, 0, 0, 0, 1, []), (2, .bipush 99, 4, 0, 0, 0, 99, []), (4, .invokestatic 35, 7, 94, 3, 0, 0, []), (7, .ifCond .ne 5, 10, 12, 0, 0, 0, []), (10, .iconst (-1), 11, 0, 0, 0, -1, []), (11, .ireturn, 12, 0, 0, 0, 0, []), (12, .aload_n 0, 13, 0, 0, 0, 0, []), (13, .getfield 7, 16, 7, 0, 0, 0, [(0, 0)]), (16, .iconst 0, 17, 0, 0, 0, 0, []), (17, .iaload, 18, 0, 0, 0, 0, []), (18, .iload_n 1, 19, 0, 0, 0, 0, []), (19, .iadd, 20, 0, 0, 0, 0, []), (20, .ldc 112, 22, 0, 0, 0, 50000, []), (22, .if_icmp .le 6, 25, 28, 0, 0, 0, []), (25, .bipush (-3), 27, 0, 0, 0, -3, []), (27, .ireturn, 28, 0, 0, 0, 0, []), (28, .aload_n 0, 29, 0, 0, 0, 0, []), (29, .invokevirtual 50, 32, 95, 0, 7, 0, []), (32, .aload_n 0, 33, 0, 0, 0, 0, []), (33, .iload_n 1, 34, 0, 0, 0, 0, []), (34, .invokevirtual 113, 37, 131, 1, 7, 0, []), (37, .ireturn, 38, 0, 0, 0, 0, [])]
def tbX7_tick : Nat → pm_E := pm_lk ltX7_tick
theorem okX7_tick : ∀ pc, (tbX7_tick pc).1 = .nop ∨ pm_ok mX7_tick pw_Ms pc (tbX7_tick pc) := pm_lk_ok (by decide +kernel)
theorem nr_X7_tick : mX7_tick.2.2.2 = (some .int) := rfl
theorem tX7_tick_0 : tbX7_tick 0 = (.iload_n 1, 1, 0, 0, 0, 0, []) := rfl
theorem tX7_tick_1 : tbX7_tick 1 = (.iconst 1, 2, 0, 0, 0, 1, []) := rfl
theorem tX7_tick_2 : tbX7_tick 2 = (.bipush 99, 4, 0, 0, 0, 99, []) := rfl
theorem tX7_tick_4 : tbX7_tick 4 = (.invokestatic 35, 7, 94, 3, 0, 0, []) := rfl
theorem tX7_tick_7 : tbX7_tick 7 = (.ifCond .ne 5, 10, 12, 0, 0, 0, []) := rfl
theorem tX7_tick_10 : tbX7_tick 10 = (.iconst (-1), 11, 0, 0, 0, -1, []) := rfl
theorem tX7_tick_11 : tbX7_tick 11 = (.ireturn, 12, 0, 0, 0, 0, []) := rfl
theorem tX7_tick_12 : tbX7_tick 12 = (.aload_n 0, 13, 0, 0, 0, 0, []) := rfl
theorem tX7_tick_13 : tbX7_tick 13 = (.getfield 7, 16, 7, 0, 0, 0, [(0, 0)]) := rfl
theorem tX7_tick_16 : tbX7_tick 16 = (.iconst 0, 17, 0, 0, 0, 0, []) := rfl
theorem tX7_tick_17 : tbX7_tick 17 = (.iaload, 18, 0, 0, 0, 0, []) := rfl
theorem tX7_tick_18 : tbX7_tick 18 = (.iload_n 1, 19, 0, 0, 0, 0, []) := rfl
theorem tX7_tick_19 : tbX7_tick 19 = (.iadd, 20, 0, 0, 0, 0, []) := rfl
theorem tX7_tick_20 : tbX7_tick 20 = (.ldc 112, 22, 0, 0, 0, 50000, []) := rfl
theorem tX7_tick_22 : tbX7_tick 22 = (.if_icmp .le 6, 25, 28, 0, 0, 0, []) := rfl
theorem tX7_tick_25 : tbX7_tick 25 = (.bipush (-3), 27, 0, 0, 0, -3, []) := rfl
theorem tX7_tick_27 : tbX7_tick 27 = (.ireturn, 28, 0, 0, 0, 0, []) := rfl
theorem tX7_tick_28 : tbX7_tick 28 = (.aload_n 0, 29, 0, 0, 0, 0, []) := rfl
theorem tX7_tick_29 : tbX7_tick 29 = (.invokevirtual 50, 32, 95, 0, 7, 0, []) := rfl
theorem tX7_tick_32 : tbX7_tick 32 = (.aload_n 0, 33, 0, 0, 0, 0, []) := rfl
theorem tX7_tick_33 : tbX7_tick 33 = (.iload_n 1, 34, 0, 0, 0, 0, []) := rfl
theorem tX7_tick_34 : tbX7_tick 34 = (.invokevirtual 113, 37, 131, 1, 7, 0, []) := rfl
theorem tX7_tick_37 : tbX7_tick 37 = (.ireturn, 38, 0, 0, 0, 0, []) := rfl
def ltX7_next : List (Nat × pm_E) := [(0, .aload_n 0, 1, 0, 0, 0, 0, []), (1, .invokevirtual 102, 4, 116, 0, 7, 0, []), (4, .istore_n 1, 5, 0, 0, 0, 0, []), (5, .iload_n 1, 6, 0, 0, 0, 0, []), (6, .ifCond .ge 8, 9, 14, 0, 0, 0, []), (9, .bipush (-4), 11, 0, 0, 0, -4, []), (11, .goto 4, 14, 15, 0, 0, 0, []), (14, .iload_n 1, 15, 0, 0, 0, 0, []), (15, .ireturn, 16, 0, 0, 0, 0, [])]
def tbX7_next : Nat → pm_E := pm_lk ltX7_next
theorem okX7_next : ∀ pc, (tbX7_next pc).1 = .nop ∨ pm_ok mX7_next pw_Ms pc (tbX7_next pc) := pm_lk_ok (by decide +kernel)
theorem nr_X7_next : mX7_next.2.2.2 = (some .int) := rfl
theorem tX7_next_0 : tbX7_next 0 = (.aload_n 0, 1, 0, 0, 0, 0, []) := rfl
theorem tX7_next_1 : tbX7_next 1 = (.invokevirtual 102, 4, 116, 0, 7, 0, []) := rfl
theorem tX7_next_4 : tbX7_next 4 = (.istore_n 1, 5, 0, 0, 0, 0, []) := rfl
theorem tX7_next_5 : tbX7_next 5 = (.iload_n 1, 6, 0, 0, 0, 0, []) := rfl
theorem tX7_next_6 : tbX7_next 6 = (.ifCond .ge 8, 9, 14, 0, 0, 0, []) := rfl
theorem tX7_next_9 : tbX7_next 9 = (.bipush (-4), 11, 0, 0, 0, -4, []) := rfl
theorem tX7_next_11 : tbX7_next 11 = (.goto 4, 14, 15, 0, 0, 0, []) := rfl
theorem tX7_next_14 : tbX7_next 14 = (.iload_n 1, 15, 0, 0, 0, 0, []) := rfl
theorem tX7_next_15 : tbX7_next 15 = (.ireturn, 16, 0, 0, 0, 0, []) := rfl
def ltX7_orderAt : List (Nat × pm_E) := [(0, .iload_n 1, 1, 0, 0, 0, 0, []), (1, .ifCond .ge 5, 4, 6, 0, 0, 0, []), (4, .iconst (-1), 5, 0, 0, 0, -1, []), (5, .ireturn, 6, 0, 0, 0, 0, []), (6, .aload_n 0, 7, 0, 0, 0, 0, []), (7, .invokevirtual 116, 10, 96, 0, 7, 0, []), (10, .aload_n 0, 11, 0, 0, 0, 0, []), (11, .invokevirtual 102, 14, 116, 0, 7, 0, []), (14, .istore_n 2, 15, 0, 0, 0, 0, []), (15, .iconst 0, 16, 0, 0, 0, 0, []), (16, .istore_n 3, 17, 0, 0, 0, 0, []), (17, .iload_n 3, 18, 0, 0, 0, 0, []), (18, .iload_n 1, 19, 0, 0, 0, 0, []), (19, .if_icmp .ge 35, 22, 54, 0, 0, 0, []), (22, .iload_n 2, 23, 0, 0, 0, 0, []), (23, .ifCond .lt 31, 26, 54, 0, 0, 0, []), (26, .aload_n 0, 27, 0, 0, 0, 0, []), (27, .getfield 7, 30, 7, 0, 0, 0, [(0, 0)]), (30, .iload_n 2, 31, 0, 0, 0, 0, []), (31, .invokestatic 57, 34, 99, 1, 0, 0, []), (34, .iconst 3, 35, 0, 0, 0, 3, []), (35, .iadd, 36, 0, 0, 0, 0, []), (36, .iconst 0, 37, 0, 0, 0, 0, []), (37, .iastore, 38, 0, 0, 0, 0, []), (38, .aload_n 0, 39, 0, 0, 0, 0, []), (39, .iload_n 2, 40, 0, 0, 0, 0, []), (40, .invokevirtual 88, 43, 118, 1, 7, 0, []), (43, .aload_n 0, 44, 0, 0, 0, 0, []), (44, .invokevirtual 102, 47, 116, 0, 7, 0, []), (47, .istore_n 2, 48, 0, 0, 0, 0, []), (48, .iinc 3 1, 51, 0, 0, 0, 1, []), (51, .goto (-34), 54, 17, 0, 0, 0, []), (54, .aload_n 0, 55, 0, 0, 0, 0, []), (55, .invokevirtual 119, 58, 97, 0, 7, 0, []), (58, .iload_n 2, 59, 0, 0, 0, 0, []), (59, .ifCond .ge 8, 62, 67, 0, 0, 0, []), (62, .bipush (-4), 64, 0, 0, 0, -4, []), (64, .goto 4, 67, 68, 0, 0, 0, []), (67, .iload_n 2, 68, 0, 0, 0, 0, []), (68, .ireturn, 69, 0, 0, 0, 0, [])]
def tbX7_orderAt : Nat → pm_E := pm_lk ltX7_orderAt
theorem okX7_orderAt : ∀ pc, (tbX7_orderAt pc).1 = .nop ∨ pm_ok mX7_orderAt pw_Ms pc (tbX7_orderAt pc) := pm_lk_ok (by decide +kernel)
theorem nr_X7_orderAt : mX7_orderAt.2.2.2 = (some .int) := rfl
theorem tX7_orderAt_0 : tbX7_orderAt 0 = (.iload_n 1, 1, 0, 0, 0, 0, []) := rfl
theorem tX7_orderAt_1 : tbX7_orderAt 1 = (.ifCond .ge 5, 4, 6, 0, 0, 0, []) := rfl
theorem tX7_orderAt_4 : tbX7_orderAt 4 = (.iconst (-1), 5, 0, 0, 0, -1, []) := rfl
theorem tX7_orderAt_5 : tbX7_orderAt 5 = (.ireturn, 6, 0, 0, 0, 0, []) := rfl
theorem tX7_orderAt_6 : tbX7_orderAt 6 = (.aload_n 0, 7, 0, 0, 0, 0, []) := rfl
theorem tX7_orderAt_7 : tbX7_orderAt 7 = (.invokevirtual 116, 10, 96, 0, 7, 0, []) := rfl
theorem tX7_orderAt_10 : tbX7_orderAt 10 = (.aload_n 0, 11, 0, 0, 0, 0, []) := rfl
theorem tX7_orderAt_11 : tbX7_orderAt 11 = (.invokevirtual 102, 14, 116, 0, 7, 0, []) := rfl
theorem tX7_orderAt_14 : tbX7_orderAt 14 = (.istore_n 2, 15, 0, 0, 0, 0, []) := rfl
theorem tX7_orderAt_15 : tbX7_orderAt 15 = (.iconst 0, 16, 0, 0, 0, 0, []) := rfl
theorem tX7_orderAt_16 : tbX7_orderAt 16 = (.istore_n 3, 17, 0, 0, 0, 0, []) := rfl
theorem tX7_orderAt_17 : tbX7_orderAt 17 = (.iload_n 3, 18, 0, 0, 0, 0, []) := rfl
theorem tX7_orderAt_18 : tbX7_orderAt 18 = (.iload_n 1, 19, 0, 0, 0, 0, []) := rfl
theorem tX7_orderAt_19 : tbX7_orderAt 19 = (.if_icmp .ge 35, 22, 54, 0, 0, 0, []) := rfl
theorem tX7_orderAt_22 : tbX7_orderAt 22 = (.iload_n 2, 23, 0, 0, 0, 0, []) := rfl
theorem tX7_orderAt_23 : tbX7_orderAt 23 = (.ifCond .lt 31, 26, 54, 0, 0, 0, []) := rfl
theorem tX7_orderAt_26 : tbX7_orderAt 26 = (.aload_n 0, 27, 0, 0, 0, 0, []) := rfl
theorem tX7_orderAt_27 : tbX7_orderAt 27 = (.getfield 7, 30, 7, 0, 0, 0, [(0, 0)]) := rfl
theorem tX7_orderAt_30 : tbX7_orderAt 30 = (.iload_n 2, 31, 0, 0, 0, 0, []) := rfl
theorem tX7_orderAt_31 : tbX7_orderAt 31 = (.invokestatic 57, 34, 99, 1, 0, 0, []) := rfl
theorem tX7_orderAt_34 : tbX7_orderAt 34 = (.iconst 3, 35, 0, 0, 0, 3, []) := rfl
theorem tX7_orderAt_35 : tbX7_orderAt 35 = (.iadd, 36, 0, 0, 0, 0, []) := rfl
theorem tX7_orderAt_36 : tbX7_orderAt 36 = (.iconst 0, 37, 0, 0, 0, 0, []) := rfl
theorem tX7_orderAt_37 : tbX7_orderAt 37 = (.iastore, 38, 0, 0, 0, 0, []) := rfl
theorem tX7_orderAt_38 : tbX7_orderAt 38 = (.aload_n 0, 39, 0, 0, 0, 0, []) := rfl
theorem tX7_orderAt_39 : tbX7_orderAt 39 = (.iload_n 2, 40, 0, 0, 0, 0, []) := rfl
theorem tX7_orderAt_40 : tbX7_orderAt 40 = (.invokevirtual 88, 43, 118, 1, 7, 0, []) := rfl
theorem tX7_orderAt_43 : tbX7_orderAt 43 = (.aload_n 0, 44, 0, 0, 0, 0, []) := rfl
theorem tX7_orderAt_44 : tbX7_orderAt 44 = (.invokevirtual 102, 47, 116, 0, 7, 0, []) := rfl
theorem tX7_orderAt_47 : tbX7_orderAt 47 = (.istore_n 2, 48, 0, 0, 0, 0, []) := rfl
theorem tX7_orderAt_48 : tbX7_orderAt 48 = (.iinc 3 1, 51, 0, 0, 0, 1, []) := rfl
theorem tX7_orderAt_51 : tbX7_orderAt 51 = (.goto (-34), 54, 17, 0, 0, 0, []) := rfl
theorem tX7_orderAt_54 : tbX7_orderAt 54 = (.aload_n 0, 55, 0, 0, 0, 0, []) := rfl
theorem tX7_orderAt_55 : tbX7_orderAt 55 = (.invokevirtual 119, 58, 97, 0, 7, 0, []) := rfl
theorem tX7_orderAt_58 : tbX7_orderAt 58 = (.iload_n 2, 59, 0, 0, 0, 0, []) := rfl
theorem tX7_orderAt_59 : tbX7_orderAt 59 = (.ifCond .ge 8, 62, 67, 0, 0, 0, []) := rfl
theorem tX7_orderAt_62 : tbX7_orderAt 62 = (.bipush (-4), 64, 0, 0, 0, -4, []) := rfl
theorem tX7_orderAt_64 : tbX7_orderAt 64 = (.goto 4, 67, 68, 0, 0, 0, []) := rfl
theorem tX7_orderAt_67 : tbX7_orderAt 67 = (.iload_n 2, 68, 0, 0, 0, 0, []) := rfl
theorem tX7_orderAt_68 : tbX7_orderAt 68 = (.ireturn, 69, 0, 0, 0, 0, []) := rfl
def ltX7_serviceAt : List (Nat × pm_E) := [(0, .iload_n 1, 1, 0, 0, 0, 0, []), (1, .ifCond .ge 5, 4, 6, 0, 0, 0, []), (4, .iconst (-1), 5, 0, 0, 0, -1, []), (5, .ireturn, 6, 0, 0, 0, 0, []), (6, .iload_n 1, 7, 0, 0, 0, 0, []), (7, .aload_n 0, 8, 0, 0, 0, 0, []), (8, .getfield 7, 11, 7, 0, 0, 0, [(0, 0)]), (11, .bipush 10, 13, 0, 0, 0, 10, []), (13, .iaload, 14, 0, 0, 0, 0, []), (14, .if_icmp .ge 25, 17, 39, 0, 0, 0, []), (17, .aload_n 0, 18, 0, 0, 0, 0, []), (18, .getfield 7, 21, 7, 0, 0, 0, [(0, 0)]), (21, .bipush 11, 23, 0, 0, 0, 11, []), (23, .aload_n 0, 24, 0, 0, 0, 0, []), (24, .getfield 7, 27, 7, 0, 0, 0, [(0, 0)]), (27, .bipush 10, 29, 0, 0, 0, 10, []), (29, .iaload, 30, 0, 0, 0, 0, []), (30, .iadd, 31, 0, 0, 0, 0, []), (31, .iconst 1, 32, 0, 0, 0, 1, []), (32, .isub, 33, 0, 0, 0, 0, []), (33, .iload_n 1, 34, 0, 0, 0, 0, []), (34, .isub, 35, 0, 0, 0, 0, []), (35, .iaload, 36, 0, 0, 0, 0, []), (36, .goto 5, 39, 41, 0, 0, 0, []), (39, .bipush (-4), 41, 0, 0, 0, -4, []), (41, .ireturn, 42, 0, 0, 0, 0, [])]
def tbX7_serviceAt : Nat → pm_E := pm_lk ltX7_serviceAt
theorem okX7_serviceAt : ∀ pc, (tbX7_serviceAt pc).1 = .nop ∨ pm_ok mX7_serviceAt pw_Ms pc (tbX7_serviceAt pc) := pm_lk_ok (by decide +kernel)
theorem nr_X7_serviceAt : mX7_serviceAt.2.2.2 = (some .int) := rfl
theorem tX7_serviceAt_0 : tbX7_serviceAt 0 = (.iload_n 1, 1, 0, 0, 0, 0, []) := rfl
theorem tX7_serviceAt_1 : tbX7_serviceAt 1 = (.ifCond .ge 5, 4, 6, 0, 0, 0, []) := rfl
theorem tX7_serviceAt_4 : tbX7_serviceAt 4 = (.iconst (-1), 5, 0, 0, 0, -1, []) := rfl
theorem tX7_serviceAt_5 : tbX7_serviceAt 5 = (.ireturn, 6, 0, 0, 0, 0, []) := rfl
theorem tX7_serviceAt_6 : tbX7_serviceAt 6 = (.iload_n 1, 7, 0, 0, 0, 0, []) := rfl
theorem tX7_serviceAt_7 : tbX7_serviceAt 7 = (.aload_n 0, 8, 0, 0, 0, 0, []) := rfl
theorem tX7_serviceAt_8 : tbX7_serviceAt 8 = (.getfield 7, 11, 7, 0, 0, 0, [(0, 0)]) := rfl
theorem tX7_serviceAt_11 : tbX7_serviceAt 11 = (.bipush 10, 13, 0, 0, 0, 10, []) := rfl
theorem tX7_serviceAt_13 : tbX7_serviceAt 13 = (.iaload, 14, 0, 0, 0, 0, []) := rfl
theorem tX7_serviceAt_14 : tbX7_serviceAt 14 = (.if_icmp .ge 25, 17, 39, 0, 0, 0, []) := rfl
theorem tX7_serviceAt_17 : tbX7_serviceAt 17 = (.aload_n 0, 18, 0, 0, 0, 0, []) := rfl
theorem tX7_serviceAt_18 : tbX7_serviceAt 18 = (.getfield 7, 21, 7, 0, 0, 0, [(0, 0)]) := rfl
theorem tX7_serviceAt_21 : tbX7_serviceAt 21 = (.bipush 11, 23, 0, 0, 0, 11, []) := rfl
theorem tX7_serviceAt_23 : tbX7_serviceAt 23 = (.aload_n 0, 24, 0, 0, 0, 0, []) := rfl
theorem tX7_serviceAt_24 : tbX7_serviceAt 24 = (.getfield 7, 27, 7, 0, 0, 0, [(0, 0)]) := rfl
theorem tX7_serviceAt_27 : tbX7_serviceAt 27 = (.bipush 10, 29, 0, 0, 0, 10, []) := rfl
theorem tX7_serviceAt_29 : tbX7_serviceAt 29 = (.iaload, 30, 0, 0, 0, 0, []) := rfl
theorem tX7_serviceAt_30 : tbX7_serviceAt 30 = (.iadd, 31, 0, 0, 0, 0, []) := rfl
theorem tX7_serviceAt_31 : tbX7_serviceAt 31 = (.iconst 1, 32, 0, 0, 0, 1, []) := rfl
theorem tX7_serviceAt_32 : tbX7_serviceAt 32 = (.isub, 33, 0, 0, 0, 0, []) := rfl
theorem tX7_serviceAt_33 : tbX7_serviceAt 33 = (.iload_n 1, 34, 0, 0, 0, 0, []) := rfl
theorem tX7_serviceAt_34 : tbX7_serviceAt 34 = (.isub, 35, 0, 0, 0, 0, []) := rfl
theorem tX7_serviceAt_35 : tbX7_serviceAt 35 = (.iaload, 36, 0, 0, 0, 0, []) := rfl
theorem tX7_serviceAt_36 : tbX7_serviceAt 36 = (.goto 5, 39, 41, 0, 0, 0, []) := rfl
theorem tX7_serviceAt_39 : tbX7_serviceAt 39 = (.bipush (-4), 41, 0, 0, 0, -4, []) := rfl
theorem tX7_serviceAt_41 : tbX7_serviceAt 41 = (.ireturn, 42, 0, 0, 0, 0, []) := rfl
def ltX7_isAhead : List (Nat × pm_E) := [(0, .aload_n 0, 1, 0, 0, 0, 0, []), (1, .getfield 7, 4, 7, 0, 0, 0, [(0, 0)]), (4, .iload_n 1, 5, 0, 0, 0, 0, []), (5, .invokestatic 57, 8, 99, 1, 0, 0, []), (8, .bipush 11, 10, 0, 0, 0, 11, []), (10, .iadd, 11, 0, 0, 0, 0, []), (11, .iaload, 12, 0, 0, 0, 0, []), (12, .aload_n 0, 13, 0, 0, 0, 0, []), (13, .getfield 7, 16, 7, 0, 0, 0, [(0, 0)]), (16, .iload_n 2, 17, 0, 0, 0, 0, []), (17, .invokestatic 57, 20, 99, 1, 0, 0, []), (20, .bipush 11, 22, 0, 0, 0, 11, []), (22, .iadd, 23, 0, 0, 0, 0, []), (23, .iaload, 24, 0, 0, 0, 0, []), (24, .isub, 25, 0, 0, 0, 0, []), (25, .istore_n 3, 26, 0, 0, 0, 0, []), (26, .iload_n 3, 27, 0, 0, 0, 0, []), (27, .ifCond .lt 34, 30, 61, 0, 0, 0, []), (30, .iload_n 3, 31, 0, 0, 0, 0, []), (31, .ifCond .ne 34, 34, 65, 0, 0, 0, []), (34, .aload_n 0, 35, 0, 0, 0, 0, []), (35, .getfield 7, 38, 7, 0, 0, 0, [(0, 0)]), (38, .iload_n 1, 39, 0, 0, 0, 0, []), (39, .invokestatic 57, 42, 99, 1, 0, 0, []), (42, .bipush 12, 44, 0, 0, 0, 12, []), (44, .iadd, 45, 0, 0, 0, 0, []), (45, .iaload, 46, 0, 0, 0, 0, []), (46, .aload_n 0, 47, 0, 0, 0, 0, []), (47, .getfield 7, 50, 7, 0, 0, 0, [(0, 0)]), (50, .iload_n 2, 51, 0, 0, 0, 0, []), (51, .invokestatic 57, 54, 99, 1, 0, 0, []), (54, .bipush 12, 56, 0, 0, 0, 12, []), (56, .iadd, 57, 0, 0, 0, 0, []), (57, .iaload, 58, 0, 0, 0, 0, []), (58, .if_icmp .ge 7, 61, 65, 0, 0, 0, []), (61, .iconst 1, 62, 0, 0, 0, 1, []), (62, .goto 4, 65, 66, 0, 0, 0, []), (65, .iconst 0, 66, 0, 0, 0, 0, []), (66, .ireturn, 67, 0, 0, 0, 0, [])]
def tbX7_isAhead : Nat → pm_E := pm_lk ltX7_isAhead
theorem okX7_isAhead : ∀ pc, (tbX7_isAhead pc).1 = .nop ∨ pm_ok mX7_isAhead pw_Ms pc (tbX7_isAhead pc) := pm_lk_ok (by decide +kernel)
theorem nr_X7_isAhead : mX7_isAhead.2.2.2 = (some .boolean) := rfl
theorem tX7_isAhead_0 : tbX7_isAhead 0 = (.aload_n 0, 1, 0, 0, 0, 0, []) := rfl
theorem tX7_isAhead_1 : tbX7_isAhead 1 = (.getfield 7, 4, 7, 0, 0, 0, [(0, 0)]) := rfl
theorem tX7_isAhead_4 : tbX7_isAhead 4 = (.iload_n 1, 5, 0, 0, 0, 0, []) := rfl
theorem tX7_isAhead_5 : tbX7_isAhead 5 = (.invokestatic 57, 8, 99, 1, 0, 0, []) := rfl
theorem tX7_isAhead_8 : tbX7_isAhead 8 = (.bipush 11, 10, 0, 0, 0, 11, []) := rfl
theorem tX7_isAhead_10 : tbX7_isAhead 10 = (.iadd, 11, 0, 0, 0, 0, []) := rfl
theorem tX7_isAhead_11 : tbX7_isAhead 11 = (.iaload, 12, 0, 0, 0, 0, []) := rfl
theorem tX7_isAhead_12 : tbX7_isAhead 12 = (.aload_n 0, 13, 0, 0, 0, 0, []) := rfl
theorem tX7_isAhead_13 : tbX7_isAhead 13 = (.getfield 7, 16, 7, 0, 0, 0, [(0, 0)]) := rfl
theorem tX7_isAhead_16 : tbX7_isAhead 16 = (.iload_n 2, 17, 0, 0, 0, 0, []) := rfl
theorem tX7_isAhead_17 : tbX7_isAhead 17 = (.invokestatic 57, 20, 99, 1, 0, 0, []) := rfl
theorem tX7_isAhead_20 : tbX7_isAhead 20 = (.bipush 11, 22, 0, 0, 0, 11, []) := rfl
theorem tX7_isAhead_22 : tbX7_isAhead 22 = (.iadd, 23, 0, 0, 0, 0, []) := rfl
theorem tX7_isAhead_23 : tbX7_isAhead 23 = (.iaload, 24, 0, 0, 0, 0, []) := rfl
theorem tX7_isAhead_24 : tbX7_isAhead 24 = (.isub, 25, 0, 0, 0, 0, []) := rfl
theorem tX7_isAhead_25 : tbX7_isAhead 25 = (.istore_n 3, 26, 0, 0, 0, 0, []) := rfl
theorem tX7_isAhead_26 : tbX7_isAhead 26 = (.iload_n 3, 27, 0, 0, 0, 0, []) := rfl
theorem tX7_isAhead_27 : tbX7_isAhead 27 = (.ifCond .lt 34, 30, 61, 0, 0, 0, []) := rfl
theorem tX7_isAhead_30 : tbX7_isAhead 30 = (.iload_n 3, 31, 0, 0, 0, 0, []) := rfl
theorem tX7_isAhead_31 : tbX7_isAhead 31 = (.ifCond .ne 34, 34, 65, 0, 0, 0, []) := rfl
theorem tX7_isAhead_34 : tbX7_isAhead 34 = (.aload_n 0, 35, 0, 0, 0, 0, []) := rfl
theorem tX7_isAhead_35 : tbX7_isAhead 35 = (.getfield 7, 38, 7, 0, 0, 0, [(0, 0)]) := rfl
theorem tX7_isAhead_38 : tbX7_isAhead 38 = (.iload_n 1, 39, 0, 0, 0, 0, []) := rfl
theorem tX7_isAhead_39 : tbX7_isAhead 39 = (.invokestatic 57, 42, 99, 1, 0, 0, []) := rfl
theorem tX7_isAhead_42 : tbX7_isAhead 42 = (.bipush 12, 44, 0, 0, 0, 12, []) := rfl
theorem tX7_isAhead_44 : tbX7_isAhead 44 = (.iadd, 45, 0, 0, 0, 0, []) := rfl
theorem tX7_isAhead_45 : tbX7_isAhead 45 = (.iaload, 46, 0, 0, 0, 0, []) := rfl
theorem tX7_isAhead_46 : tbX7_isAhead 46 = (.aload_n 0, 47, 0, 0, 0, 0, []) := rfl
theorem tX7_isAhead_47 : tbX7_isAhead 47 = (.getfield 7, 50, 7, 0, 0, 0, [(0, 0)]) := rfl
theorem tX7_isAhead_50 : tbX7_isAhead 50 = (.iload_n 2, 51, 0, 0, 0, 0, []) := rfl
theorem tX7_isAhead_51 : tbX7_isAhead 51 = (.invokestatic 57, 54, 99, 1, 0, 0, []) := rfl
theorem tX7_isAhead_54 : tbX7_isAhead 54 = (.bipush 12, 56, 0, 0, 0, 12, []) := rfl
theorem tX7_isAhead_56 : tbX7_isAhead 56 = (.iadd, 57, 0, 0, 0, 0, []) := rfl
theorem tX7_isAhead_57 : tbX7_isAhead 57 = (.iaload, 58, 0, 0, 0, 0, []) := rfl
theorem tX7_isAhead_58 : tbX7_isAhead 58 = (.if_icmp .ge 7, 61, 65, 0, 0, 0, []) := rfl
theorem tX7_isAhead_61 : tbX7_isAhead 61 = (.iconst 1, 62, 0, 0, 0, 1, []) := rfl
theorem tX7_isAhead_62 : tbX7_isAhead 62 = (.goto 4, 65, 66, 0, 0, 0, []) := rfl
theorem tX7_isAhead_65 : tbX7_isAhead 65 = (.iconst 0, 66, 0, 0, 0, 0, []) := rfl
theorem tX7_isAhead_66 : tbX7_isAhead 66 = (.ireturn, 67, 0, 0, 0, 0, []) := rfl
def ltX7_waitingAt : List (Nat × pm_E) := [(0, .iload_n 1, 1, 0, 0, 0, 0, []), (1, .ifCond .ge 5, 4, 6, 0, 0, 0, []), (4, .iconst (-1), 5, 0, 0, 0, -1, []), (5, .ireturn, 6, 0, 0, 0, 0, []), (6, .iconst 0, 7, 0, 0, 0, 0, []), (7, .istore_n 2, 8, 0, 0, 0, 0, []), (8, .iload_n 2, 9, 0, 0, 0, 0, []), (9, .aload_n 0, 10, 0, 0, 0, 0, []), (10, .getfield 7, 13, 7, 0, 0, 0, [(0, 0)]), (13, .iconst 4, 14, 0, 0, 0, 4, []), (14, .iaload, 15, 0, 0, 0, 0, []), (15, .if_icmp .ge 87, 18, 102, 0, 0, 0, []), (18, .iconst 0, 19, 0, 0, 0, 0, []), (19, .istore_n 3, 20, 0, 0, 0, 0, []), (20, .iconst 0, 21, 0, 0, 0, 0, []), (21, .istore 4, 23, 0, 0, 0, 0, []), (23, .iload 4, 25, 0, 0, 0, 0, []), (25, .aload_n 0, 26, 0, 0, 0, 0, []), (26, .getfield 7, 29, 7, 0, 0, 0, [(0, 0)]), (29, .iconst 4, 30, 0, 0, 0, 4, []), (30, .iaload, 31, 0, 0, 0, 0, []), (31, .if_icmp .ge 43, 34, 74, 0, 0, 0, []), (34, .iload_n 3, 35, 0, 0, 0, 0, []), (35, .aload_n 0, 36, 0, 0, 0, 0, []), (36, .getfield 7, 39, 7, 0, 0, 0, [(0, 0)]), (39, .iload 4, 41, 0, 0, 0, 0, []), (41, .invokestatic 57, 44, 99, 1, 0, 0, []), (44, .iconst 4, 45, 0, 0, 0, 4, []), (45, .iadd, 46, 0, 0, 0, 0, []), (46, .iaload, 47, 0, 0, 0, 0, []), (47, .iconst 2, 48, 0, 0, 0, 2, []), (48, .if_icmp .ne 17, 51, 65, 0, 0, 0, []), (51, .aload_n 0, 52, 0, 0, 0, 0, []), (52, .iload 4, 54, 0, 0, 0, 0, []), (54, .iload_n 2, 55, 0, 0, 0, 0, []), (55, .invokevirtual 122, 58, 136, 2, 7, 0, []), (58, .ifCond .eq 7, 61, 65, 0, 0, 0, []), (61, .iconst 1, 62, 0, 0, 0, 1, []), (62, .goto 4, 65, 66, 0, 0, 0, []), (65, .iconst 0, 66, 0, 0, 0, 0, []), (66, .iadd, 67, 0, 0, 0, 0, []), (67, .istore_n 3, 68, 0, 0, 0, 0, []), (68, .iinc 4 1, 71, 0, 0, 0, 1, []), (71, .goto (-48), 74, 23, 0, 0, 0, []), (74, .aload_n 0, 75, 0, 0, 0, 0, []), (75, .getfield 7, 78, 7, 0, 0, 0, [(0, 0)]), (78, .iload_n 2, 79, 0, 0, 0, 0, []), (79, .invokestatic 57, 82, 99, 1, 0, 0, []), (82, .iconst 4, 83, 0, 0, 0, 4, []), (83, .iadd, 84, 0, 0, 0, 0, []), (84, .iaload, 85, 0, 0, 0, 0, []), (85, .iconst 2, 86, 0, 0, 0, 2, []), (86, .if_icmp .ne 10, 89, 96, 0, 0, 0, []), (89, .iload_n 3, 90, 0, 0, 0, 0, []), (90, .iload_n 1, 91, 0, 0, 0, 0, []), (91, .if_icmp .ne 5, 94, 96, 0, 0, 0, []), (94, .iload_n 2, 95, 0, 0, 0, 0, []), (95, .ireturn, 96, 0, 0, 0, 0, []), (96, .iinc 2 1, 99, 0, 0, 0, 1, []), (99, .goto (-91), 102, 8, 0, 0, 0, []), (102, .bipush (-4), 104, 0, 0, 0, -4, []), (104, .ireturn, 105, 0, 0, 0, 0, [])]
def tbX7_waitingAt : Nat → pm_E := pm_lk ltX7_waitingAt
theorem okX7_waitingAt : ∀ pc, (tbX7_waitingAt pc).1 = .nop ∨ pm_ok mX7_waitingAt pw_Ms pc (tbX7_waitingAt pc) := pm_lk_ok (by decide +kernel)
theorem nr_X7_waitingAt : mX7_waitingAt.2.2.2 = (some .int) := rfl
theorem tX7_waitingAt_0 : tbX7_waitingAt 0 = (.iload_n 1, 1, 0, 0, 0, 0, []) := rfl
theorem tX7_waitingAt_1 : tbX7_waitingAt 1 = (.ifCond .ge 5, 4, 6, 0, 0, 0, []) := rfl
theorem tX7_waitingAt_4 : tbX7_waitingAt 4 = (.iconst (-1), 5, 0, 0, 0, -1, []) := rfl
theorem tX7_waitingAt_5 : tbX7_waitingAt 5 = (.ireturn, 6, 0, 0, 0, 0, []) := rfl
theorem tX7_waitingAt_6 : tbX7_waitingAt 6 = (.iconst 0, 7, 0, 0, 0, 0, []) := rfl
theorem tX7_waitingAt_7 : tbX7_waitingAt 7 = (.istore_n 2, 8, 0, 0, 0, 0, []) := rfl
theorem tX7_waitingAt_8 : tbX7_waitingAt 8 = (.iload_n 2, 9, 0, 0, 0, 0, []) := rfl
theorem tX7_waitingAt_9 : tbX7_waitingAt 9 = (.aload_n 0, 10, 0, 0, 0, 0, []) := rfl
theorem tX7_waitingAt_10 : tbX7_waitingAt 10 = (.getfield 7, 13, 7, 0, 0, 0, [(0, 0)]) := rfl
theorem tX7_waitingAt_13 : tbX7_waitingAt 13 = (.iconst 4, 14, 0, 0, 0, 4, []) := rfl
theorem tX7_waitingAt_14 : tbX7_waitingAt 14 = (.iaload, 15, 0, 0, 0, 0, []) := rfl
theorem tX7_waitingAt_15 : tbX7_waitingAt 15 = (.if_icmp .ge 87, 18, 102, 0, 0, 0, []) := rfl
theorem tX7_waitingAt_18 : tbX7_waitingAt 18 = (.iconst 0, 19, 0, 0, 0, 0, []) := rfl
theorem tX7_waitingAt_19 : tbX7_waitingAt 19 = (.istore_n 3, 20, 0, 0, 0, 0, []) := rfl
theorem tX7_waitingAt_20 : tbX7_waitingAt 20 = (.iconst 0, 21, 0, 0, 0, 0, []) := rfl
theorem tX7_waitingAt_21 : tbX7_waitingAt 21 = (.istore 4, 23, 0, 0, 0, 0, []) := rfl
theorem tX7_waitingAt_23 : tbX7_waitingAt 23 = (.iload 4, 25, 0, 0, 0, 0, []) := rfl
theorem tX7_waitingAt_25 : tbX7_waitingAt 25 = (.aload_n 0, 26, 0, 0, 0, 0, []) := rfl
theorem tX7_waitingAt_26 : tbX7_waitingAt 26 = (.getfield 7, 29, 7, 0, 0, 0, [(0, 0)]) := rfl
theorem tX7_waitingAt_29 : tbX7_waitingAt 29 = (.iconst 4, 30, 0, 0, 0, 4, []) := rfl
theorem tX7_waitingAt_30 : tbX7_waitingAt 30 = (.iaload, 31, 0, 0, 0, 0, []) := rfl
theorem tX7_waitingAt_31 : tbX7_waitingAt 31 = (.if_icmp .ge 43, 34, 74, 0, 0, 0, []) := rfl
theorem tX7_waitingAt_34 : tbX7_waitingAt 34 = (.iload_n 3, 35, 0, 0, 0, 0, []) := rfl
theorem tX7_waitingAt_35 : tbX7_waitingAt 35 = (.aload_n 0, 36, 0, 0, 0, 0, []) := rfl
theorem tX7_waitingAt_36 : tbX7_waitingAt 36 = (.getfield 7, 39, 7, 0, 0, 0, [(0, 0)]) := rfl
theorem tX7_waitingAt_39 : tbX7_waitingAt 39 = (.iload 4, 41, 0, 0, 0, 0, []) := rfl
theorem tX7_waitingAt_41 : tbX7_waitingAt 41 = (.invokestatic 57, 44, 99, 1, 0, 0, []) := rfl
theorem tX7_waitingAt_44 : tbX7_waitingAt 44 = (.iconst 4, 45, 0, 0, 0, 4, []) := rfl
theorem tX7_waitingAt_45 : tbX7_waitingAt 45 = (.iadd, 46, 0, 0, 0, 0, []) := rfl
theorem tX7_waitingAt_46 : tbX7_waitingAt 46 = (.iaload, 47, 0, 0, 0, 0, []) := rfl
theorem tX7_waitingAt_47 : tbX7_waitingAt 47 = (.iconst 2, 48, 0, 0, 0, 2, []) := rfl
theorem tX7_waitingAt_48 : tbX7_waitingAt 48 = (.if_icmp .ne 17, 51, 65, 0, 0, 0, []) := rfl
theorem tX7_waitingAt_51 : tbX7_waitingAt 51 = (.aload_n 0, 52, 0, 0, 0, 0, []) := rfl
theorem tX7_waitingAt_52 : tbX7_waitingAt 52 = (.iload 4, 54, 0, 0, 0, 0, []) := rfl
theorem tX7_waitingAt_54 : tbX7_waitingAt 54 = (.iload_n 2, 55, 0, 0, 0, 0, []) := rfl
theorem tX7_waitingAt_55 : tbX7_waitingAt 55 = (.invokevirtual 122, 58, 136, 2, 7, 0, []) := rfl
theorem tX7_waitingAt_58 : tbX7_waitingAt 58 = (.ifCond .eq 7, 61, 65, 0, 0, 0, []) := rfl
theorem tX7_waitingAt_61 : tbX7_waitingAt 61 = (.iconst 1, 62, 0, 0, 0, 1, []) := rfl
theorem tX7_waitingAt_62 : tbX7_waitingAt 62 = (.goto 4, 65, 66, 0, 0, 0, []) := rfl
theorem tX7_waitingAt_65 : tbX7_waitingAt 65 = (.iconst 0, 66, 0, 0, 0, 0, []) := rfl
theorem tX7_waitingAt_66 : tbX7_waitingAt 66 = (.iadd, 67, 0, 0, 0, 0, []) := rfl
theorem tX7_waitingAt_67 : tbX7_waitingAt 67 = (.istore_n 3, 68, 0, 0, 0, 0, []) := rfl
theorem tX7_waitingAt_68 : tbX7_waitingAt 68 = (.iinc 4 1, 71, 0, 0, 0, 1, []) := rfl
theorem tX7_waitingAt_71 : tbX7_waitingAt 71 = (.goto (-48), 74, 23, 0, 0, 0, []) := rfl
theorem tX7_waitingAt_74 : tbX7_waitingAt 74 = (.aload_n 0, 75, 0, 0, 0, 0, []) := rfl
theorem tX7_waitingAt_75 : tbX7_waitingAt 75 = (.getfield 7, 78, 7, 0, 0, 0, [(0, 0)]) := rfl
theorem tX7_waitingAt_78 : tbX7_waitingAt 78 = (.iload_n 2, 79, 0, 0, 0, 0, []) := rfl
theorem tX7_waitingAt_79 : tbX7_waitingAt 79 = (.invokestatic 57, 82, 99, 1, 0, 0, []) := rfl
theorem tX7_waitingAt_82 : tbX7_waitingAt 82 = (.iconst 4, 83, 0, 0, 0, 4, []) := rfl
theorem tX7_waitingAt_83 : tbX7_waitingAt 83 = (.iadd, 84, 0, 0, 0, 0, []) := rfl
theorem tX7_waitingAt_84 : tbX7_waitingAt 84 = (.iaload, 85, 0, 0, 0, 0, []) := rfl
theorem tX7_waitingAt_85 : tbX7_waitingAt 85 = (.iconst 2, 86, 0, 0, 0, 2, []) := rfl
theorem tX7_waitingAt_86 : tbX7_waitingAt 86 = (.if_icmp .ne 10, 89, 96, 0, 0, 0, []) := rfl
theorem tX7_waitingAt_89 : tbX7_waitingAt 89 = (.iload_n 3, 90, 0, 0, 0, 0, []) := rfl
theorem tX7_waitingAt_90 : tbX7_waitingAt 90 = (.iload_n 1, 91, 0, 0, 0, 0, []) := rfl
theorem tX7_waitingAt_91 : tbX7_waitingAt 91 = (.if_icmp .ne 5, 94, 96, 0, 0, 0, []) := rfl
theorem tX7_waitingAt_94 : tbX7_waitingAt 94 = (.iload_n 2, 95, 0, 0, 0, 0, []) := rfl
theorem tX7_waitingAt_95 : tbX7_waitingAt 95 = (.ireturn, 96, 0, 0, 0, 0, []) := rfl
theorem tX7_waitingAt_96 : tbX7_waitingAt 96 = (.iinc 2 1, 99, 0, 0, 0, 1, []) := rfl
theorem tX7_waitingAt_99 : tbX7_waitingAt 99 = (.goto (-91), 102, 8, 0, 0, 0, []) := rfl
theorem tX7_waitingAt_102 : tbX7_waitingAt 102 = (.bipush (-4), 104, 0, 0, 0, -4, []) := rfl
theorem tX7_waitingAt_104 : tbX7_waitingAt 104 = (.ireturn, 105, 0, 0, 0, 0, []) := rfl
def ltX7_isOf : List (Nat × pm_E) := [(0, .iload_n 2, 1, 0, 0, 0, 0, []), (1, .tableswitch 125 0 4 #[35, 56, 62, 83, 104], 36, 126, 0, 0, 0, [(0, 36), (1, 57), (2, 63), (3, 84), (4, 105)]), (36, .aload_n 0, 37, 0, 0, 0, 0, []), (37, .getfield 7, 40, 7, 0, 0, 0, [(0, 0)]), (40, .iload_n 1, 41, 0, 0, 0, 0, []), (41, .invokestatic 57, 44, 99, 1, 0, 0, []), (44, .iconst 3, 45, 0, 0, 0, 3, []), (45, .iadd, 46, 0, 0, 0, 0, []), (46, .iaload, 47, 0, 0, 0, 0, []), (47, .iconst 1, 48, 0, 0, 0, 1, []), (48, .if_icmp .ne 7, 51, 55, 0, 0, 0, []), (51, .iconst 1, 52, 0, 0, 0, 1, []), (52, .goto 4, 55, 56, 0, 0, 0, []), (55, .iconst 0, 56, 0, 0, 0, 0, []), (56, .ireturn, 57, 0, 0, 0, 0, []), (57, .aload_n 0, 58, 0, 0, 0, 0, []), (58, .iload_n 1, 59, 0, 0, 0, 0, []), (59, .invokevirtual 82, 62, 114, 1, 7, 0, []), (62, .ireturn, 63, 0, 0, 0, 0, []), (63, .aload_n 0, 64, 0, 0, 0, 0, []), (64, .getfield 7, 67, 7, 0, 0, 0, [(0, 0)]), (67, .iload_n 1, 68, 0, 0, 0, 0, []), (68, .invokestatic 57, 71, 99, 1, 0, 0, []), (71, .iconst 4, 72, 0, 0, 0, 4, []), (72, .iadd, 73, 0, 0, 0, 0, []), (73, .iaload, 74, 0, 0, 0, 0, []), (74, .iconst 1, 75, 0, 0, 0, 1, []), (75, .if_icmp .ne 7, 78, 82, 0, 0, 0, []), (78, .iconst 1, 79, 0, 0, 0, 1, []), (79, .goto 4, 82, 83, 0, 0, 0, []), (82, .iconst 0, 83, 0, 0, 0, 0, []), (83, .ireturn, 84, 0, 0, 0, 0, []), (84, .aload_n 0, 85, 0, 0, 0, 0, []), (85, .getfield 7, 88, 7, 0, 0, 0, [(0, 0)]), (88, .iload_n 1, 89, 0, 0, 0, 0, []), (89, .invokestatic 57, 92, 99, 1, 0, 0, []), (92, .iconst 4, 93, 0, 0, 0, 4, []), (93, .iadd, 94, 0, 0, 0, 0, []), (94, .iaload, 95, 0, 0, 0, 0, []), (95, .iconst 2, 96, 0, 0, 0, 2, []), (96, .if_icmp .ne 7, 99, 103, 0, 0, 0, []), (99, .iconst 1, 100, 0, 0, 0, 1, []), (100, .goto 4, 103, 104, 0, 0, 0, []), (103, .iconst 0, 104, 0, 0, 0, 0, []), (104, .ireturn, 105, 0, 0, 0, 0, []), (105, .aload_n 0, 106, 0, 0, 0, 0, []), (106, .getfield 7, 109, 7, 0, 0, 0, [(0, 0)]), (109, .iload_n 1, 110, 0, 0, 0, 0, []), (110, .invokestatic 57, 113, 99, 1, 0, 0, []), (113, .iconst 5, 114, 0, 0, 0, 5, []), (114, .iadd, 115, 0, 0, 0, 0, []), (115, .iaload, 116, 0, 0, 0, 0, []), (116, .iconst 1, 117, 0, 0, 0, 1, []), (117, .if_icmp .ne 7, 120, 124, 0, 0, 0, []), (120, .iconst 1, 121, 0, 0, 0, 1, []), (121, .goto 4, 124, 125, 0, 0, 0, []), (124, .iconst 0, 125, 0, 0, 0, 0, []), (125, .ireturn, 126, 0, 0, 0, 0, []), (126, .aload_n 0, 127, 0, 0, 0, 0, []), (127, .iload_n 1, 128, 0, 0, 0, 0, []), (128, .invokevirtual 76, 131, 113, 1, 7, 0, []), (131, .ireturn, 132, 0, 0, 0, 0, [])]
def tbX7_isOf : Nat → pm_E := pm_lk ltX7_isOf
theorem okX7_isOf : ∀ pc, (tbX7_isOf pc).1 = .nop ∨ pm_ok mX7_isOf pw_Ms pc (tbX7_isOf pc) := pm_lk_ok (by decide +kernel)
theorem nr_X7_isOf : mX7_isOf.2.2.2 = (some .boolean) := rfl
theorem tX7_isOf_0 : tbX7_isOf 0 = (.iload_n 2, 1, 0, 0, 0, 0, []) := rfl
theorem tX7_isOf_1 : tbX7_isOf 1 = (.tableswitch 125 0 4 #[35, 56, 62, 83, 104], 36, 126, 0, 0, 0, [(0, 36), (1, 57), (2, 63), (3, 84), (4, 105)]) := rfl
theorem tX7_isOf_36 : tbX7_isOf 36 = (.aload_n 0, 37, 0, 0, 0, 0, []) := rfl
theorem tX7_isOf_37 : tbX7_isOf 37 = (.getfield 7, 40, 7, 0, 0, 0, [(0, 0)]) := rfl
theorem tX7_isOf_40 : tbX7_isOf 40 = (.iload_n 1, 41, 0, 0, 0, 0, []) := rfl
theorem tX7_isOf_41 : tbX7_isOf 41 = (.invokestatic 57, 44, 99, 1, 0, 0, []) := rfl
theorem tX7_isOf_44 : tbX7_isOf 44 = (.iconst 3, 45, 0, 0, 0, 3, []) := rfl
theorem tX7_isOf_45 : tbX7_isOf 45 = (.iadd, 46, 0, 0, 0, 0, []) := rfl
theorem tX7_isOf_46 : tbX7_isOf 46 = (.iaload, 47, 0, 0, 0, 0, []) := rfl
theorem tX7_isOf_47 : tbX7_isOf 47 = (.iconst 1, 48, 0, 0, 0, 1, []) := rfl
theorem tX7_isOf_48 : tbX7_isOf 48 = (.if_icmp .ne 7, 51, 55, 0, 0, 0, []) := rfl
theorem tX7_isOf_51 : tbX7_isOf 51 = (.iconst 1, 52, 0, 0, 0, 1, []) := rfl
theorem tX7_isOf_52 : tbX7_isOf 52 = (.goto 4, 55, 56, 0, 0, 0, []) := rfl
theorem tX7_isOf_55 : tbX7_isOf 55 = (.iconst 0, 56, 0, 0, 0, 0, []) := rfl
theorem tX7_isOf_56 : tbX7_isOf 56 = (.ireturn, 57, 0, 0, 0, 0, []) := rfl
theorem tX7_isOf_57 : tbX7_isOf 57 = (.aload_n 0, 58, 0, 0, 0, 0, []) := rfl
theorem tX7_isOf_58 : tbX7_isOf 58 = (.iload_n 1, 59, 0, 0, 0, 0, []) := rfl
theorem tX7_isOf_59 : tbX7_isOf 59 = (.invokevirtual 82, 62, 114, 1, 7, 0, []) := rfl
theorem tX7_isOf_62 : tbX7_isOf 62 = (.ireturn, 63, 0, 0, 0, 0, []) := rfl
theorem tX7_isOf_63 : tbX7_isOf 63 = (.aload_n 0, 64, 0, 0, 0, 0, []) := rfl
theorem tX7_isOf_64 : tbX7_isOf 64 = (.getfield 7, 67, 7, 0, 0, 0, [(0, 0)]) := rfl
theorem tX7_isOf_67 : tbX7_isOf 67 = (.iload_n 1, 68, 0, 0, 0, 0, []) := rfl
theorem tX7_isOf_68 : tbX7_isOf 68 = (.invokestatic 57, 71, 99, 1, 0, 0, []) := rfl
theorem tX7_isOf_71 : tbX7_isOf 71 = (.iconst 4, 72, 0, 0, 0, 4, []) := rfl
theorem tX7_isOf_72 : tbX7_isOf 72 = (.iadd, 73, 0, 0, 0, 0, []) := rfl
theorem tX7_isOf_73 : tbX7_isOf 73 = (.iaload, 74, 0, 0, 0, 0, []) := rfl
theorem tX7_isOf_74 : tbX7_isOf 74 = (.iconst 1, 75, 0, 0, 0, 1, []) := rfl
theorem tX7_isOf_75 : tbX7_isOf 75 = (.if_icmp .ne 7, 78, 82, 0, 0, 0, []) := rfl
theorem tX7_isOf_78 : tbX7_isOf 78 = (.iconst 1, 79, 0, 0, 0, 1, []) := rfl
theorem tX7_isOf_79 : tbX7_isOf 79 = (.goto 4, 82, 83, 0, 0, 0, []) := rfl
theorem tX7_isOf_82 : tbX7_isOf 82 = (.iconst 0, 83, 0, 0, 0, 0, []) := rfl
theorem tX7_isOf_83 : tbX7_isOf 83 = (.ireturn, 84, 0, 0, 0, 0, []) := rfl
theorem tX7_isOf_84 : tbX7_isOf 84 = (.aload_n 0, 85, 0, 0, 0, 0, []) := rfl
theorem tX7_isOf_85 : tbX7_isOf 85 = (.getfield 7, 88, 7, 0, 0, 0, [(0, 0)]) := rfl
theorem tX7_isOf_88 : tbX7_isOf 88 = (.iload_n 1, 89, 0, 0, 0, 0, []) := rfl
theorem tX7_isOf_89 : tbX7_isOf 89 = (.invokestatic 57, 92, 99, 1, 0, 0, []) := rfl
theorem tX7_isOf_92 : tbX7_isOf 92 = (.iconst 4, 93, 0, 0, 0, 4, []) := rfl
theorem tX7_isOf_93 : tbX7_isOf 93 = (.iadd, 94, 0, 0, 0, 0, []) := rfl
theorem tX7_isOf_94 : tbX7_isOf 94 = (.iaload, 95, 0, 0, 0, 0, []) := rfl
theorem tX7_isOf_95 : tbX7_isOf 95 = (.iconst 2, 96, 0, 0, 0, 2, []) := rfl
theorem tX7_isOf_96 : tbX7_isOf 96 = (.if_icmp .ne 7, 99, 103, 0, 0, 0, []) := rfl
theorem tX7_isOf_99 : tbX7_isOf 99 = (.iconst 1, 100, 0, 0, 0, 1, []) := rfl
theorem tX7_isOf_100 : tbX7_isOf 100 = (.goto 4, 103, 104, 0, 0, 0, []) := rfl
theorem tX7_isOf_103 : tbX7_isOf 103 = (.iconst 0, 104, 0, 0, 0, 0, []) := rfl
theorem tX7_isOf_104 : tbX7_isOf 104 = (.ireturn, 105, 0, 0, 0, 0, []) := rfl
theorem tX7_isOf_105 : tbX7_isOf 105 = (.aload_n 0, 106, 0, 0, 0, 0, []) := rfl
theorem tX7_isOf_106 : tbX7_isOf 106 = (.getfield 7, 109, 7, 0, 0, 0, [(0, 0)]) := rfl
theorem tX7_isOf_109 : tbX7_isOf 109 = (.iload_n 1, 110, 0, 0, 0, 0, []) := rfl
theorem tX7_isOf_110 : tbX7_isOf 110 = (.invokestatic 57, 113, 99, 1, 0, 0, []) := rfl
theorem tX7_isOf_113 : tbX7_isOf 113 = (.iconst 5, 114, 0, 0, 0, 5, []) := rfl
theorem tX7_isOf_114 : tbX7_isOf 114 = (.iadd, 115, 0, 0, 0, 0, []) := rfl
theorem tX7_isOf_115 : tbX7_isOf 115 = (.iaload, 116, 0, 0, 0, 0, []) := rfl
theorem tX7_isOf_116 : tbX7_isOf 116 = (.iconst 1, 117, 0, 0, 0, 1, []) := rfl
theorem tX7_isOf_117 : tbX7_isOf 117 = (.if_icmp .ne 7, 120, 124, 0, 0, 0, []) := rfl
theorem tX7_isOf_120 : tbX7_isOf 120 = (.iconst 1, 121, 0, 0, 0, 1, []) := rfl
theorem tX7_isOf_121 : tbX7_isOf 121 = (.goto 4, 124, 125, 0, 0, 0, []) := rfl
theorem tX7_isOf_124 : tbX7_isOf 124 = (.iconst 0, 125, 0, 0, 0, 0, []) := rfl
theorem tX7_isOf_125 : tbX7_isOf 125 = (.ireturn, 126, 0, 0, 0, 0, []) := rfl
theorem tX7_isOf_126 : tbX7_isOf 126 = (.aload_n 0, 127, 0, 0, 0, 0, []) := rfl
theorem tX7_isOf_127 : tbX7_isOf 127 = (.iload_n 1, 128, 0, 0, 0, 0, []) := rfl
theorem tX7_isOf_128 : tbX7_isOf 128 = (.invokevirtual 76, 131, 113, 1, 7, 0, []) := rfl
theorem tX7_isOf_131 : tbX7_isOf 131 = (.ireturn, 132, 0, 0, 0, 0, []) := rfl
def ltX7_linesOf : List (Nat × pm_E) := [(0, .iconst 0, 1, 0, 0, 0, 0, []), (1, .istore_n 2, 2, 0, 0, 0, 0, []), (2, .iconst 0, 3, 0, 0, 0, 0, []), (3, .istore_n 3, 4, 0, 0, 0, 0, []), (4, .iload_n 3, 5, 0, 0, 0, 0, []), (5, .aload_n 0, 6, 0, 0, 0, 0, []), (6, .getfield 7, 9, 7, 0, 0, 0, [(0, 0)]), (9, .iconst 4, 10, 0, 0, 0, 4, []), (10, .iaload, 11, 0, 0, 0, 0, []), (11, .if_icmp .ge 28, 14, 39, 0, 0, 0, []), (14, .iload_n 2, 15, 0, 0, 0, 0, []), (15, .aload_n 0, 16, 0, 0, 0, 0, []), (16, .iload_n 3, 17, 0, 0, 0, 0, []), (17, .iload_n 1, 18, 0, 0, 0, 0, []), (18, .invokevirtual 125, 21, 138, 2, 7, 0, []), (21, .ifCond .eq 9, 24, 30, 0, 0, 0, []), (24, .iconst 1, 25, 0, 0, 0, 1, []), (25, .iload_n 3, 26, 0, 0, 0, 0, []), (26, .ishl, 27, 0, 0, 0, 0, []), (27, .goto 4, 30, 31, 0, 0, 0, []), (30, .iconst 0, 31, 0, 0, 0, 0, []), (31, .ior, 32, 0, 0, 0, 0, []), (32, .istore_n 2, 33, 0, 0, 0, 0, []), (33, .iinc 3 1, 36, 0, 0, 0, 1, []), (36, .goto (-32), 39, 4, 0, 0, 0, []), (39, .iload_n 2, 40, 0, 0, 0, 0, []), (40, .ireturn, 41, 0, 0, 0, 0, [])]
def tbX7_linesOf : Nat → pm_E := pm_lk ltX7_linesOf
theorem okX7_linesOf : ∀ pc, (tbX7_linesOf pc).1 = .nop ∨ pm_ok mX7_linesOf pw_Ms pc (tbX7_linesOf pc) := pm_lk_ok (by decide +kernel)
theorem nr_X7_linesOf : mX7_linesOf.2.2.2 = (some .int) := rfl
theorem tX7_linesOf_0 : tbX7_linesOf 0 = (.iconst 0, 1, 0, 0, 0, 0, []) := rfl
theorem tX7_linesOf_1 : tbX7_linesOf 1 = (.istore_n 2, 2, 0, 0, 0, 0, []) := rfl
theorem tX7_linesOf_2 : tbX7_linesOf 2 = (.iconst 0, 3, 0, 0, 0, 0, []) := rfl
theorem tX7_linesOf_3 : tbX7_linesOf 3 = (.istore_n 3, 4, 0, 0, 0, 0, []) := rfl
theorem tX7_linesOf_4 : tbX7_linesOf 4 = (.iload_n 3, 5, 0, 0, 0, 0, []) := rfl
theorem tX7_linesOf_5 : tbX7_linesOf 5 = (.aload_n 0, 6, 0, 0, 0, 0, []) := rfl
theorem tX7_linesOf_6 : tbX7_linesOf 6 = (.getfield 7, 9, 7, 0, 0, 0, [(0, 0)]) := rfl
theorem tX7_linesOf_9 : tbX7_linesOf 9 = (.iconst 4, 10, 0, 0, 0, 4, []) := rfl
theorem tX7_linesOf_10 : tbX7_linesOf 10 = (.iaload, 11, 0, 0, 0, 0, []) := rfl
theorem tX7_linesOf_11 : tbX7_linesOf 11 = (.if_icmp .ge 28, 14, 39, 0, 0, 0, []) := rfl
theorem tX7_linesOf_14 : tbX7_linesOf 14 = (.iload_n 2, 15, 0, 0, 0, 0, []) := rfl
theorem tX7_linesOf_15 : tbX7_linesOf 15 = (.aload_n 0, 16, 0, 0, 0, 0, []) := rfl
theorem tX7_linesOf_16 : tbX7_linesOf 16 = (.iload_n 3, 17, 0, 0, 0, 0, []) := rfl
theorem tX7_linesOf_17 : tbX7_linesOf 17 = (.iload_n 1, 18, 0, 0, 0, 0, []) := rfl
theorem tX7_linesOf_18 : tbX7_linesOf 18 = (.invokevirtual 125, 21, 138, 2, 7, 0, []) := rfl
theorem tX7_linesOf_21 : tbX7_linesOf 21 = (.ifCond .eq 9, 24, 30, 0, 0, 0, []) := rfl
theorem tX7_linesOf_24 : tbX7_linesOf 24 = (.iconst 1, 25, 0, 0, 0, 1, []) := rfl
theorem tX7_linesOf_25 : tbX7_linesOf 25 = (.iload_n 3, 26, 0, 0, 0, 0, []) := rfl
theorem tX7_linesOf_26 : tbX7_linesOf 26 = (.ishl, 27, 0, 0, 0, 0, []) := rfl
theorem tX7_linesOf_27 : tbX7_linesOf 27 = (.goto 4, 30, 31, 0, 0, 0, []) := rfl
theorem tX7_linesOf_30 : tbX7_linesOf 30 = (.iconst 0, 31, 0, 0, 0, 0, []) := rfl
theorem tX7_linesOf_31 : tbX7_linesOf 31 = (.ior, 32, 0, 0, 0, 0, []) := rfl
theorem tX7_linesOf_32 : tbX7_linesOf 32 = (.istore_n 2, 33, 0, 0, 0, 0, []) := rfl
theorem tX7_linesOf_33 : tbX7_linesOf 33 = (.iinc 3 1, 36, 0, 0, 0, 1, []) := rfl
theorem tX7_linesOf_36 : tbX7_linesOf 36 = (.goto (-32), 39, 4, 0, 0, 0, []) := rfl
theorem tX7_linesOf_39 : tbX7_linesOf 39 = (.iload_n 2, 40, 0, 0, 0, 0, []) := rfl
theorem tX7_linesOf_40 : tbX7_linesOf 40 = (.ireturn, 41, 0, 0, 0, 0, []) := rfl
def ltX7_lines : List (Nat × pm_E) := [(0, .iload_n 1, 1, 0, 0, 0, 0, []), (1, .iconst 0, 2, 0, 0, 0, 0, []), (2, .iconst 5, 3, 0, 0, 0, 5, []), (3, .invokestatic 35, 6, 94, 3, 0, 0, []), (6, .ifCond .eq 11, 9, 17, 0, 0, 0, []), (9, .aload_n 0, 10, 0, 0, 0, 0, []), (10, .iload_n 1, 11, 0, 0, 0, 0, []), (11, .invokevirtual 67, 14, 139, 1, 7, 0, []), (14, .goto 4, 17, 18, 0, 0, 0, []), (17, .iconst (-1), 18, 0, 0, 0, -1, []), (18, .ireturn, 19, 0, 0, 0, 0, [])]
def tbX7_lines : Nat → pm_E := pm_lk ltX7_lines
theorem okX7_lines : ∀ pc, (tbX7_lines pc).1 = .nop ∨ pm_ok mX7_lines pw_Ms pc (tbX7_lines pc) := pm_lk_ok (by decide +kernel)
theorem nr_X7_lines : mX7_lines.2.2.2 = (some .int) := rfl
theorem tX7_lines_0 : tbX7_lines 0 = (.iload_n 1, 1, 0, 0, 0, 0, []) := rfl
theorem tX7_lines_1 : tbX7_lines 1 = (.iconst 0, 2, 0, 0, 0, 0, []) := rfl
theorem tX7_lines_2 : tbX7_lines 2 = (.iconst 5, 3, 0, 0, 0, 5, []) := rfl
theorem tX7_lines_3 : tbX7_lines 3 = (.invokestatic 35, 6, 94, 3, 0, 0, []) := rfl
theorem tX7_lines_6 : tbX7_lines 6 = (.ifCond .eq 11, 9, 17, 0, 0, 0, []) := rfl
theorem tX7_lines_9 : tbX7_lines 9 = (.aload_n 0, 10, 0, 0, 0, 0, []) := rfl
theorem tX7_lines_10 : tbX7_lines 10 = (.iload_n 1, 11, 0, 0, 0, 0, []) := rfl
theorem tX7_lines_11 : tbX7_lines 11 = (.invokevirtual 67, 14, 139, 1, 7, 0, []) := rfl
theorem tX7_lines_14 : tbX7_lines 14 = (.goto 4, 17, 18, 0, 0, 0, []) := rfl
theorem tX7_lines_17 : tbX7_lines 17 = (.iconst (-1), 18, 0, 0, 0, -1, []) := rfl
theorem tX7_lines_18 : tbX7_lines 18 = (.ireturn, 19, 0, 0, 0, 0, []) := rfl
def ltX7_litEdges : List (Nat × pm_E) := [(0, .iconst 0, 1, 0, 0, 0, 0, []), (1, .istore_n 1, 2, 0, 0, 0, 0, []), (2, .iconst 0, 3, 0, 0, 0, 0, []), (3, .istore_n 2, 4, 0, 0, 0, 0, []), (4, .iload_n 2, 5, 0, 0, 0, 0, []), (5, .aload_n 0, 6, 0, 0, 0, 0, []), (6, .getfield 7, 9, 7, 0, 0, 0, [(0, 0)]), (9, .iconst 4, 10, 0, 0, 0, 4, []), (10, .iaload, 11, 0, 0, 0, 0, []), (11, .if_icmp .ge 41, 14, 52, 0, 0, 0, []), (14, .iload_n 1, 15, 0, 0, 0, 0, []), (15, .aload_n 0, 16, 0, 0, 0, 0, []), (16, .getfield 7, 19, 7, 0, 0, 0, [(0, 0)]), (19, .iload_n 2, 20, 0, 0, 0, 0, []), (20, .invokestatic 57, 23, 99, 1, 0, 0, []), (23, .iconst 2, 24, 0, 0, 0, 2, []), (24, .iadd, 25, 0, 0, 0, 0, []), (25, .iaload, 26, 0, 0, 0, 0, []), (26, .ifCond .ne 17, 29, 43, 0, 0, 0, []), (29, .aload_n 0, 30, 0, 0, 0, 0, []), (30, .getfield 7, 33, 7, 0, 0, 0, [(0, 0)]), (33, .iload_n 2, 34, 0, 0, 0, 0, []), (34, .invokestatic 57, 37, 99, 1, 0, 0, []), (37, .iconst 3, 38, 0, 0, 0, 3, []), (38, .iadd, 39, 0, 0, 0, 0, []), (39, .iaload, 40, 0, 0, 0, 0, []), (40, .goto 4, 43, 44, 0, 0, 0, []), (43, .iconst 0, 44, 0, 0, 0, 0, []), (44, .iadd, 45, 0, 0, 0, 0, []), (45, .istore_n 1, 46, 0, 0, 0, 0, []), (46, .iinc 2 1, 49, 0, 0, 0, 1, []), (49, .goto (-45), 52, 4, 0, 0, 0, []), (52, .iload_n 1, 53, 0, 0, 0, 0, []), (53, .ireturn, 54, 0, 0, 0, 0, [])]
def tbX7_litEdges : Nat → pm_E := pm_lk ltX7_litEdges
theorem okX7_litEdges : ∀ pc, (tbX7_litEdges pc).1 = .nop ∨ pm_ok mX7_litEdges pw_Ms pc (tbX7_litEdges pc) := pm_lk_ok (by decide +kernel)
theorem nr_X7_litEdges : mX7_litEdges.2.2.2 = (some .int) := rfl
theorem tX7_litEdges_0 : tbX7_litEdges 0 = (.iconst 0, 1, 0, 0, 0, 0, []) := rfl
theorem tX7_litEdges_1 : tbX7_litEdges 1 = (.istore_n 1, 2, 0, 0, 0, 0, []) := rfl
theorem tX7_litEdges_2 : tbX7_litEdges 2 = (.iconst 0, 3, 0, 0, 0, 0, []) := rfl
theorem tX7_litEdges_3 : tbX7_litEdges 3 = (.istore_n 2, 4, 0, 0, 0, 0, []) := rfl
theorem tX7_litEdges_4 : tbX7_litEdges 4 = (.iload_n 2, 5, 0, 0, 0, 0, []) := rfl
theorem tX7_litEdges_5 : tbX7_litEdges 5 = (.aload_n 0, 6, 0, 0, 0, 0, []) := rfl
theorem tX7_litEdges_6 : tbX7_litEdges 6 = (.getfield 7, 9, 7, 0, 0, 0, [(0, 0)]) := rfl
theorem tX7_litEdges_9 : tbX7_litEdges 9 = (.iconst 4, 10, 0, 0, 0, 4, []) := rfl
theorem tX7_litEdges_10 : tbX7_litEdges 10 = (.iaload, 11, 0, 0, 0, 0, []) := rfl
theorem tX7_litEdges_11 : tbX7_litEdges 11 = (.if_icmp .ge 41, 14, 52, 0, 0, 0, []) := rfl
theorem tX7_litEdges_14 : tbX7_litEdges 14 = (.iload_n 1, 15, 0, 0, 0, 0, []) := rfl
theorem tX7_litEdges_15 : tbX7_litEdges 15 = (.aload_n 0, 16, 0, 0, 0, 0, []) := rfl
theorem tX7_litEdges_16 : tbX7_litEdges 16 = (.getfield 7, 19, 7, 0, 0, 0, [(0, 0)]) := rfl
theorem tX7_litEdges_19 : tbX7_litEdges 19 = (.iload_n 2, 20, 0, 0, 0, 0, []) := rfl
theorem tX7_litEdges_20 : tbX7_litEdges 20 = (.invokestatic 57, 23, 99, 1, 0, 0, []) := rfl
theorem tX7_litEdges_23 : tbX7_litEdges 23 = (.iconst 2, 24, 0, 0, 0, 2, []) := rfl
theorem tX7_litEdges_24 : tbX7_litEdges 24 = (.iadd, 25, 0, 0, 0, 0, []) := rfl
theorem tX7_litEdges_25 : tbX7_litEdges 25 = (.iaload, 26, 0, 0, 0, 0, []) := rfl
theorem tX7_litEdges_26 : tbX7_litEdges 26 = (.ifCond .ne 17, 29, 43, 0, 0, 0, []) := rfl
theorem tX7_litEdges_29 : tbX7_litEdges 29 = (.aload_n 0, 30, 0, 0, 0, 0, []) := rfl
theorem tX7_litEdges_30 : tbX7_litEdges 30 = (.getfield 7, 33, 7, 0, 0, 0, [(0, 0)]) := rfl
theorem tX7_litEdges_33 : tbX7_litEdges 33 = (.iload_n 2, 34, 0, 0, 0, 0, []) := rfl
theorem tX7_litEdges_34 : tbX7_litEdges 34 = (.invokestatic 57, 37, 99, 1, 0, 0, []) := rfl
theorem tX7_litEdges_37 : tbX7_litEdges 37 = (.iconst 3, 38, 0, 0, 0, 3, []) := rfl
theorem tX7_litEdges_38 : tbX7_litEdges 38 = (.iadd, 39, 0, 0, 0, 0, []) := rfl
theorem tX7_litEdges_39 : tbX7_litEdges 39 = (.iaload, 40, 0, 0, 0, 0, []) := rfl
theorem tX7_litEdges_40 : tbX7_litEdges 40 = (.goto 4, 43, 44, 0, 0, 0, []) := rfl
theorem tX7_litEdges_43 : tbX7_litEdges 43 = (.iconst 0, 44, 0, 0, 0, 0, []) := rfl
theorem tX7_litEdges_44 : tbX7_litEdges 44 = (.iadd, 45, 0, 0, 0, 0, []) := rfl
theorem tX7_litEdges_45 : tbX7_litEdges 45 = (.istore_n 1, 46, 0, 0, 0, 0, []) := rfl
theorem tX7_litEdges_46 : tbX7_litEdges 46 = (.iinc 2 1, 49, 0, 0, 0, 1, []) := rfl
theorem tX7_litEdges_49 : tbX7_litEdges 49 = (.goto (-45), 52, 4, 0, 0, 0, []) := rfl
theorem tX7_litEdges_52 : tbX7_litEdges 52 = (.iload_n 1, 53, 0, 0, 0, 0, []) := rfl
theorem tX7_litEdges_53 : tbX7_litEdges 53 = (.ireturn, 54, 0, 0, 0, 0, []) := rfl
def ltX7_count : List (Nat × pm_E) := [(0, .iload_n 1, 1, 0, 0, 0, 0, []), (1, .tableswitch 156 0 12 #[67, 74, 81, 88, 95, 103, 108, 116, 124, 131, 138, 146, 151], 68, 157, 0, 0, 0, [(0, 68), (1, 75), (2, 82), (3, 89), (4, 96), (5, 104), (6, 109), (7, 117), (8, 125), (9, 132), (10, 139), (11, 147), (12, 152)]), (68, .aload_n 0, 69, 0, 0, 0, 0, []), (69, .getfield 7, 72, 7, 0, 0, 0, [(0, 0)]), (72, .iconst 3, 73, 0, 0, 0, 3, []), (73, .iaload, 74, 0, 0, 0, 0, []), (74, .ireturn, 75, 0, 0, 0, 0, []), (75, .aload_n 0, 76, 0, 0, 0, 0, []), (76, .getfield 7, 79, 7, 0, 0, 0, [(0, 0)]), (79, .iconst 4, 80, 0, 0, 0, 4, []), (80, .iaload, 81, 0, 0, 0, 0, []), (81, .ireturn, 82, 0, 0, 0, 0, []), (82, .aload_n 0, 83, 0, 0, 0, 0, []), (83, .getfield 7, 86, 7, 0, 0, 0, [(0, 0)]), (86, .iconst 0, 87, 0, 0, 0, 0, []), (87, .iaload, 88, 0, 0, 0, 0, []), (88, .ireturn, 89, 0, 0, 0, 0, []), (89, .aload_n 0, 90, 0, 0, 0, 0, []), (90, .getfield 7, 93, 7, 0, 0, 0, [(0, 0)]), (93, .iconst 5, 94, 0, 0, 0, 5, []), (94, .iaload, 95, 0, 0, 0, 0, []), (95, .ireturn, 96, 0, 0, 0, 0, []), (96, .aload_n 0, 97, 0, 0, 0, 0, []), (97, .getfield 7, 100, 7, 0, 0, 0, [(0, 0)]), (100, .bipush 6, 102, 0, 0, 0, 6, []), (102, .iaload, 103, 0, 0, 0, 0, []), (103, .ireturn, 104, 0, 0, 0, 0, []), (104, .aload_n 0, 105, 0, 0, 0, 0, []), (105, .invokevirtual 128, 108, 141, 0, 7, 0, []), (108, .ireturn, 109, 0, 0, 0, 0, []), (109, .aload_n 0, 110, 0, 0, 0, 0, []), (110, .getfield 7, 113, 7, 0, 0, 0, [(0, 0)]), (113, .bipush 7, 115, 0, 0, 0, 7, []), (115, .iaload, 116, 0, 0, 0, 0, []), (116, .ireturn, 117, 0, 0, 0, 0, []), (117, .aload_n 0, 118, 0, 0, 0, 0, []), (118, .getfield 7, 121, 7, 0, 0, 0, [(0, 0)]), (121, .bipush 8, 123, 0, 0, 0, 8, []), (123, .iaload, 124, 0, 0, 0, 0, []), (124, .ireturn, 125, 0, 0, 0, 0, []), (125, .aload_n 0, 126, 0, 0, 0, 0, []), (126, .getfield 7, 129, 7, 0, 0, 0, [(0, 0)]), (129, .iconst 1, 130, 0, 0, 0, 1, []), (130, .iaload, 131, 0, 0, 0, 0, []), (131, .ireturn, 132, 0, 0, 0, 0, []), (132, .aload_n 0, 133, 0, 0, 0, 0, []), (133, .getfield 7, 136, 7, 0, 0, 0, [(0, 0)]), (136, .iconst 2, 137, 0, 0, 0, 2, []), (137, .iaload, 138, 0, 0, 0, 0, []), (138, .ireturn, 139, 0, 0, 0, 0, []), (139, .aload_n 0, 140, 0, 0, 0, 0, []), (140, .getfield 7, 143, 7, 0, 0, 0, [(0, 0)]), (143, .bipush 9, 145, 0, 0, 0, 9, []), (145, .iaload, 146, 0, 0, 0, 0, []), (146, .ireturn, 147, 0, 0, 0, 0, []), (147, .aload_n 0, 148, 0, 0, 0, 0, []), (148, .getfield 31, 151, 7, 8, 0, 0, []), (151, .ireturn, 152, 0, 0, 0, 0, []), (152, .aload_n 0, 153, 0, 0, 0, 0, []), (153, .getfield 131, 156, 7, 7, 0, 0, []), (156, .ireturn, 157, 0, 0, 0, 0, []), (157, .iconst (-1), 158, 0, 0, 0, -1, []), (158, .ireturn, 159, 0, 0, 0, 0, [])]
def tbX7_count : Nat → pm_E := pm_lk ltX7_count
theorem okX7_count : ∀ pc, (tbX7_count pc).1 = .nop ∨ pm_ok mX7_count pw_Ms pc (tbX7_count pc) := pm_lk_ok (by decide +kernel)
theorem nr_X7_count : mX7_count.2.2.2 = (some .int) := rfl
theorem tX7_count_0 : tbX7_count 0 = (.iload_n 1, 1, 0, 0, 0, 0, []) := rfl
theorem tX7_count_1 : tbX7_count 1 = (.tableswitch 156 0 12 #[67, 74, 81, 88, 95, 103, 108, 116, 124, 131, 138, 146, 151], 68, 157, 0, 0, 0, [(0, 68), (1, 75), (2, 82), (3, 89), (4, 96), (5, 104), (6, 109), (7, 117), (8, 125), (9, 132), (10, 139), (11, 147), (12, 152)]) := rfl
theorem tX7_count_68 : tbX7_count 68 = (.aload_n 0, 69, 0, 0, 0, 0, []) := rfl
theorem tX7_count_69 : tbX7_count 69 = (.getfield 7, 72, 7, 0, 0, 0, [(0, 0)]) := rfl
theorem tX7_count_72 : tbX7_count 72 = (.iconst 3, 73, 0, 0, 0, 3, []) := rfl
theorem tX7_count_73 : tbX7_count 73 = (.iaload, 74, 0, 0, 0, 0, []) := rfl
theorem tX7_count_74 : tbX7_count 74 = (.ireturn, 75, 0, 0, 0, 0, []) := rfl
theorem tX7_count_75 : tbX7_count 75 = (.aload_n 0, 76, 0, 0, 0, 0, []) := rfl
theorem tX7_count_76 : tbX7_count 76 = (.getfield 7, 79, 7, 0, 0, 0, [(0, 0)]) := rfl
theorem tX7_count_79 : tbX7_count 79 = (.iconst 4, 80, 0, 0, 0, 4, []) := rfl
theorem tX7_count_80 : tbX7_count 80 = (.iaload, 81, 0, 0, 0, 0, []) := rfl
theorem tX7_count_81 : tbX7_count 81 = (.ireturn, 82, 0, 0, 0, 0, []) := rfl
theorem tX7_count_82 : tbX7_count 82 = (.aload_n 0, 83, 0, 0, 0, 0, []) := rfl
theorem tX7_count_83 : tbX7_count 83 = (.getfield 7, 86, 7, 0, 0, 0, [(0, 0)]) := rfl
theorem tX7_count_86 : tbX7_count 86 = (.iconst 0, 87, 0, 0, 0, 0, []) := rfl
theorem tX7_count_87 : tbX7_count 87 = (.iaload, 88, 0, 0, 0, 0, []) := rfl
theorem tX7_count_88 : tbX7_count 88 = (.ireturn, 89, 0, 0, 0, 0, []) := rfl
theorem tX7_count_89 : tbX7_count 89 = (.aload_n 0, 90, 0, 0, 0, 0, []) := rfl
theorem tX7_count_90 : tbX7_count 90 = (.getfield 7, 93, 7, 0, 0, 0, [(0, 0)]) := rfl
theorem tX7_count_93 : tbX7_count 93 = (.iconst 5, 94, 0, 0, 0, 5, []) := rfl
theorem tX7_count_94 : tbX7_count 94 = (.iaload, 95, 0, 0, 0, 0, []) := rfl
theorem tX7_count_95 : tbX7_count 95 = (.ireturn, 96, 0, 0, 0, 0, []) := rfl
theorem tX7_count_96 : tbX7_count 96 = (.aload_n 0, 97, 0, 0, 0, 0, []) := rfl
theorem tX7_count_97 : tbX7_count 97 = (.getfield 7, 100, 7, 0, 0, 0, [(0, 0)]) := rfl
theorem tX7_count_100 : tbX7_count 100 = (.bipush 6, 102, 0, 0, 0, 6, []) := rfl
theorem tX7_count_102 : tbX7_count 102 = (.iaload, 103, 0, 0, 0, 0, []) := rfl
theorem tX7_count_103 : tbX7_count 103 = (.ireturn, 104, 0, 0, 0, 0, []) := rfl
theorem tX7_count_104 : tbX7_count 104 = (.aload_n 0, 105, 0, 0, 0, 0, []) := rfl
theorem tX7_count_105 : tbX7_count 105 = (.invokevirtual 128, 108, 141, 0, 7, 0, []) := rfl
theorem tX7_count_108 : tbX7_count 108 = (.ireturn, 109, 0, 0, 0, 0, []) := rfl
theorem tX7_count_109 : tbX7_count 109 = (.aload_n 0, 110, 0, 0, 0, 0, []) := rfl
theorem tX7_count_110 : tbX7_count 110 = (.getfield 7, 113, 7, 0, 0, 0, [(0, 0)]) := rfl
theorem tX7_count_113 : tbX7_count 113 = (.bipush 7, 115, 0, 0, 0, 7, []) := rfl
theorem tX7_count_115 : tbX7_count 115 = (.iaload, 116, 0, 0, 0, 0, []) := rfl
theorem tX7_count_116 : tbX7_count 116 = (.ireturn, 117, 0, 0, 0, 0, []) := rfl
theorem tX7_count_117 : tbX7_count 117 = (.aload_n 0, 118, 0, 0, 0, 0, []) := rfl
theorem tX7_count_118 : tbX7_count 118 = (.getfield 7, 121, 7, 0, 0, 0, [(0, 0)]) := rfl
theorem tX7_count_121 : tbX7_count 121 = (.bipush 8, 123, 0, 0, 0, 8, []) := rfl
theorem tX7_count_123 : tbX7_count 123 = (.iaload, 124, 0, 0, 0, 0, []) := rfl
theorem tX7_count_124 : tbX7_count 124 = (.ireturn, 125, 0, 0, 0, 0, []) := rfl
theorem tX7_count_125 : tbX7_count 125 = (.aload_n 0, 126, 0, 0, 0, 0, []) := rfl
theorem tX7_count_126 : tbX7_count 126 = (.getfield 7, 129, 7, 0, 0, 0, [(0, 0)]) := rfl
theorem tX7_count_129 : tbX7_count 129 = (.iconst 1, 130, 0, 0, 0, 1, []) := rfl
theorem tX7_count_130 : tbX7_count 130 = (.iaload, 131, 0, 0, 0, 0, []) := rfl
theorem tX7_count_131 : tbX7_count 131 = (.ireturn, 132, 0, 0, 0, 0, []) := rfl
theorem tX7_count_132 : tbX7_count 132 = (.aload_n 0, 133, 0, 0, 0, 0, []) := rfl
theorem tX7_count_133 : tbX7_count 133 = (.getfield 7, 136, 7, 0, 0, 0, [(0, 0)]) := rfl
theorem tX7_count_136 : tbX7_count 136 = (.iconst 2, 137, 0, 0, 0, 2, []) := rfl
theorem tX7_count_137 : tbX7_count 137 = (.iaload, 138, 0, 0, 0, 0, []) := rfl
theorem tX7_count_138 : tbX7_count 138 = (.ireturn, 139, 0, 0, 0, 0, []) := rfl
theorem tX7_count_139 : tbX7_count 139 = (.aload_n 0, 140, 0, 0, 0, 0, []) := rfl
theorem tX7_count_140 : tbX7_count 140 = (.getfield 7, 143, 7, 0, 0, 0, [(0, 0)]) := rfl
theorem tX7_count_143 : tbX7_count 143 = (.bipush 9, 145, 0, 0, 0, 9, []) := rfl
theorem tX7_count_145 : tbX7_count 145 = (.iaload, 146, 0, 0, 0, 0, []) := rfl
theorem tX7_count_146 : tbX7_count 146 = (.ireturn, 147, 0, 0, 0, 0, []) := rfl
theorem tX7_count_147 : tbX7_count 147 = (.aload_n 0, 148, 0, 0, 0, 0, []) := rfl
theorem tX7_count_148 : tbX7_count 148 = (.getfield 31, 151, 7, 8, 0, 0, []) := rfl
theorem tX7_count_151 : tbX7_count 151 = (.ireturn, 152, 0, 0, 0, 0, []) := rfl
theorem tX7_count_152 : tbX7_count 152 = (.aload_n 0, 153, 0, 0, 0, 0, []) := rfl
theorem tX7_count_153 : tbX7_count 153 = (.getfield 131, 156, 7, 7, 0, 0, []) := rfl
theorem tX7_count_156 : tbX7_count 156 = (.ireturn, 157, 0, 0, 0, 0, []) := rfl
theorem tX7_count_157 : tbX7_count 157 = (.iconst (-1), 158, 0, 0, 0, -1, []) := rfl
theorem tX7_count_158 : tbX7_count 158 = (.ireturn, 159, 0, 0, 0, 0, []) := rfl
def ltX7_undo : List (Nat × pm_E) := [(0, .aload_n 0, 1, 0, 0, 0, 0, []), (1, .getfield 31, 4, 7, 8, 0, 0, []), (4, .ifCond .ne 6, 7, 10, 0, 0, 0, []), (7, .bipush (-2), 9, 0, 0, 0, -2, []), (9, .ireturn, 10, 0, 0, 0, 0, []), (10, .aload_n 0, 11, 0, 0, 0, 0, []), (11, .dup, 12, 0, 0, 0, 0, []), (12, .getfield 31, 15, 7, 8, 0, 0, []), (15, .iconst 1, 16, 0, 0, 0, 1, []), (16, .isub, 17, 0, 0, 0, 0, []), (17, .putfield 31, 20, 7, 8, 0, 0, []), (20, .iconst 0, 21, 0, 0, 0, 0, []), (21, .istore_n 1, 22, 0, 0, 0, 0, []), (22, .iload_n 1, 23, 0, 0, 0, 0, []), (23, .sipush 374, 26, 0, 0, 0, 374, []), (26, .if_icmp .ge 30, 29, 56, 0, 0, 0, []), (29, .aload_n 0, 30, 0, 0, 0, 0, []), (30, .getfield 7, 33, 7, 0, 0, 0, [(0, 0)]), (33, .iload_n 1, 34, 0, 0, 0, 0, []), (34, .aload_n 0, 35, 0, 0, 0, 0, []), (35, .getfield 13, 38, 7, 1, 0, 0, [(0, 0)]), (38, .sipush 374, 41, 0, 0, 0, 374, []), (41, .aload_n 0, 42, 0, 0, 0, 0, []), (42, .getfield 31, 45, 7, 8, 0, 0, []), (45, .imul, 46, 0, 0, 0, 0, []), (46, .iload_n 1, 47, 0, 0, 0, 0, []), (47, .iadd, 48, 0, 0, 0, 0, []), (48, .iaload, 49, 0, 0, 0, 0, []), (49, .iastore, 50, 0, 0, 0, 0, []), (50, .iinc 1 1, 53, 0, 0, 0, 1, []), (53, .goto (-31), 56, 22, 0, 0, 0, []), (56, .aload_n 0, 57, 0, 0, 0, 0, []), (57, .getfield 31, 60, 7, 8, 0, 0, []), (60, .ireturn, 61, 0, 0, 0, 0, [])]
def tbX7_undo : Nat → pm_E := pm_lk ltX7_undo
theorem okX7_undo : ∀ pc, (tbX7_undo pc).1 = .nop ∨ pm_ok mX7_undo pw_Ms pc (tbX7_undo pc) := pm_lk_ok (by decide +kernel)
theorem nr_X7_undo : mX7_undo.2.2.2 = (some .int) := rfl
theorem tX7_undo_0 : tbX7_undo 0 = (.aload_n 0, 1, 0, 0, 0, 0, []) := rfl
theorem tX7_undo_1 : tbX7_undo 1 = (.getfield 31, 4, 7, 8, 0, 0, []) := rfl
theorem tX7_undo_4 : tbX7_undo 4 = (.ifCond .ne 6, 7, 10, 0, 0, 0, []) := rfl
theorem tX7_undo_7 : tbX7_undo 7 = (.bipush (-2), 9, 0, 0, 0, -2, []) := rfl
theorem tX7_undo_9 : tbX7_undo 9 = (.ireturn, 10, 0, 0, 0, 0, []) := rfl
theorem tX7_undo_10 : tbX7_undo 10 = (.aload_n 0, 11, 0, 0, 0, 0, []) := rfl
theorem tX7_undo_11 : tbX7_undo 11 = (.dup, 12, 0, 0, 0, 0, []) := rfl
theorem tX7_undo_12 : tbX7_undo 12 = (.getfield 31, 15, 7, 8, 0, 0, []) := rfl
theorem tX7_undo_15 : tbX7_undo 15 = (.iconst 1, 16, 0, 0, 0, 1, []) := rfl
theorem tX7_undo_16 : tbX7_undo 16 = (.isub, 17, 0, 0, 0, 0, []) := rfl
theorem tX7_undo_17 : tbX7_undo 17 = (.putfield 31, 20, 7, 8, 0, 0, []) := rfl
theorem tX7_undo_20 : tbX7_undo 20 = (.iconst 0, 21, 0, 0, 0, 0, []) := rfl
theorem tX7_undo_21 : tbX7_undo 21 = (.istore_n 1, 22, 0, 0, 0, 0, []) := rfl
theorem tX7_undo_22 : tbX7_undo 22 = (.iload_n 1, 23, 0, 0, 0, 0, []) := rfl
theorem tX7_undo_23 : tbX7_undo 23 = (.sipush 374, 26, 0, 0, 0, 374, []) := rfl
theorem tX7_undo_26 : tbX7_undo 26 = (.if_icmp .ge 30, 29, 56, 0, 0, 0, []) := rfl
theorem tX7_undo_29 : tbX7_undo 29 = (.aload_n 0, 30, 0, 0, 0, 0, []) := rfl
theorem tX7_undo_30 : tbX7_undo 30 = (.getfield 7, 33, 7, 0, 0, 0, [(0, 0)]) := rfl
theorem tX7_undo_33 : tbX7_undo 33 = (.iload_n 1, 34, 0, 0, 0, 0, []) := rfl
theorem tX7_undo_34 : tbX7_undo 34 = (.aload_n 0, 35, 0, 0, 0, 0, []) := rfl
theorem tX7_undo_35 : tbX7_undo 35 = (.getfield 13, 38, 7, 1, 0, 0, [(0, 0)]) := rfl
theorem tX7_undo_38 : tbX7_undo 38 = (.sipush 374, 41, 0, 0, 0, 374, []) := rfl
theorem tX7_undo_41 : tbX7_undo 41 = (.aload_n 0, 42, 0, 0, 0, 0, []) := rfl
theorem tX7_undo_42 : tbX7_undo 42 = (.getfield 31, 45, 7, 8, 0, 0, []) := rfl
theorem tX7_undo_45 : tbX7_undo 45 = (.imul, 46, 0, 0, 0, 0, []) := rfl
theorem tX7_undo_46 : tbX7_undo 46 = (.iload_n 1, 47, 0, 0, 0, 0, []) := rfl
theorem tX7_undo_47 : tbX7_undo 47 = (.iadd, 48, 0, 0, 0, 0, []) := rfl
theorem tX7_undo_48 : tbX7_undo 48 = (.iaload, 49, 0, 0, 0, 0, []) := rfl
theorem tX7_undo_49 : tbX7_undo 49 = (.iastore, 50, 0, 0, 0, 0, []) := rfl
theorem tX7_undo_50 : tbX7_undo 50 = (.iinc 1 1, 53, 0, 0, 0, 1, []) := rfl
theorem tX7_undo_53 : tbX7_undo 53 = (.goto (-31), 56, 22, 0, 0, 0, []) := rfl
theorem tX7_undo_56 : tbX7_undo 56 = (.aload_n 0, 57, 0, 0, 0, 0, []) := rfl
theorem tX7_undo_57 : tbX7_undo 57 = (.getfield 31, 60, 7, 8, 0, 0, []) := rfl
theorem tX7_undo_60 : tbX7_undo 60 = (.ireturn, 61, 0, 0, 0, 0, []) := rfl
def ltX7_type : List (Nat × pm_E) := [(0, .iload_n 1, 1, 0, 0, 0, 0, []), (1, .bipush 32, 3, 0, 0, 0, 32, []), (3, .bipush 126, 5, 0, 0, 0, 126, []), (5, .invokestatic 35, 8, 94, 3, 0, 0, []), (8, .ifCond .ne 5, 11, 13, 0, 0, 0, []), (11, .iconst (-1), 12, 0, 0, 0, -1, []), (12, .ireturn, 13, 0, 0, 0, 0, []), (13, .aload_n 0, 14, 0, 0, 0, 0, []), (14, .getfield 131, 17, 7, 7, 0, 0, []), (17, .bipush 60, 19, 0, 0, 0, 60, []), (19, .if_icmp .ne 6, 22, 25, 0, 0, 0, []), (22, .bipush (-3), 24, 0, 0, 0, -3, []), (24, .ireturn, 25, 0, 0, 0, 0, []), (25, .aload_n 0, 26, 0, 0, 0, 0, []), (26, .getfield 28, 29, 7, 6, 0, 0, [(0, 0)]), (29, .aload_n 0, 30, 0, 0, 0, 0, []), (30, .getfield 131, 33, 7, 7, 0, 0, []), (33, .iload_n 1, 34, 0, 0, 0, 0, []), (34, .iastore, 35, 0, 0, 0, 0, []), (35, .aload_n 0, 36, 0, 0, 0, 0, []), (36, .dup, 37, 0, 0, 0, 0, []), (37, .getfield 131, 40, 7, 7, 0, 0, []), (40, .iconst 1, 41, 0, 0, 0, 1, []), (41, .iadd, 42, 0, 0, 0, 0, []), (42, .putfield 131, 45, 7, 7, 0, 0, []), (45, .aload_n 0, 46, 0, 0, 0, 0, []), (46, .getfield 131, 49, 7, 7, 0, 0, []), (49, .ireturn, 50, 0, 0, 0, 0, [])]
def tbX7_type : Nat → pm_E := pm_lk ltX7_type
theorem okX7_type : ∀ pc, (tbX7_type pc).1 = .nop ∨ pm_ok mX7_type pw_Ms pc (tbX7_type pc) := pm_lk_ok (by decide +kernel)
theorem nr_X7_type : mX7_type.2.2.2 = (some .int) := rfl
theorem tX7_type_0 : tbX7_type 0 = (.iload_n 1, 1, 0, 0, 0, 0, []) := rfl
theorem tX7_type_1 : tbX7_type 1 = (.bipush 32, 3, 0, 0, 0, 32, []) := rfl
theorem tX7_type_3 : tbX7_type 3 = (.bipush 126, 5, 0, 0, 0, 126, []) := rfl
theorem tX7_type_5 : tbX7_type 5 = (.invokestatic 35, 8, 94, 3, 0, 0, []) := rfl
theorem tX7_type_8 : tbX7_type 8 = (.ifCond .ne 5, 11, 13, 0, 0, 0, []) := rfl
theorem tX7_type_11 : tbX7_type 11 = (.iconst (-1), 12, 0, 0, 0, -1, []) := rfl
theorem tX7_type_12 : tbX7_type 12 = (.ireturn, 13, 0, 0, 0, 0, []) := rfl
theorem tX7_type_13 : tbX7_type 13 = (.aload_n 0, 14, 0, 0, 0, 0, []) := rfl
theorem tX7_type_14 : tbX7_type 14 = (.getfield 131, 17, 7, 7, 0, 0, []) := rfl
theorem tX7_type_17 : tbX7_type 17 = (.bipush 60, 19, 0, 0, 0, 60, []) := rfl
theorem tX7_type_19 : tbX7_type 19 = (.if_icmp .ne 6, 22, 25, 0, 0, 0, []) := rfl
theorem tX7_type_22 : tbX7_type 22 = (.bipush (-3), 24, 0, 0, 0, -3, []) := rfl
theorem tX7_type_24 : tbX7_type 24 = (.ireturn, 25, 0, 0, 0, 0, []) := rfl
theorem tX7_type_25 : tbX7_type 25 = (.aload_n 0, 26, 0, 0, 0, 0, []) := rfl
theorem tX7_type_26 : tbX7_type 26 = (.getfield 28, 29, 7, 6, 0, 0, [(0, 0)]) := rfl
theorem tX7_type_29 : tbX7_type 29 = (.aload_n 0, 30, 0, 0, 0, 0, []) := rfl
theorem tX7_type_30 : tbX7_type 30 = (.getfield 131, 33, 7, 7, 0, 0, []) := rfl
theorem tX7_type_33 : tbX7_type 33 = (.iload_n 1, 34, 0, 0, 0, 0, []) := rfl
theorem tX7_type_34 : tbX7_type 34 = (.iastore, 35, 0, 0, 0, 0, []) := rfl
theorem tX7_type_35 : tbX7_type 35 = (.aload_n 0, 36, 0, 0, 0, 0, []) := rfl
theorem tX7_type_36 : tbX7_type 36 = (.dup, 37, 0, 0, 0, 0, []) := rfl
theorem tX7_type_37 : tbX7_type 37 = (.getfield 131, 40, 7, 7, 0, 0, []) := rfl
theorem tX7_type_40 : tbX7_type 40 = (.iconst 1, 41, 0, 0, 0, 1, []) := rfl
theorem tX7_type_41 : tbX7_type 41 = (.iadd, 42, 0, 0, 0, 0, []) := rfl
theorem tX7_type_42 : tbX7_type 42 = (.putfield 131, 45, 7, 7, 0, 0, []) := rfl
theorem tX7_type_45 : tbX7_type 45 = (.aload_n 0, 46, 0, 0, 0, 0, []) := rfl
theorem tX7_type_46 : tbX7_type 46 = (.getfield 131, 49, 7, 7, 0, 0, []) := rfl
theorem tX7_type_49 : tbX7_type 49 = (.ireturn, 50, 0, 0, 0, 0, []) := rfl
def ltX7_clearText : List (Nat × pm_E) := [(0, .aload_n 0, 1, 0, 0, 0, 0, []), (1, .getfield 131, 4, 7, 7, 0, 0, []), (4, .istore_n 1, 5, 0, 0, 0, 0, []), (5, .aload_n 0, 6, 0, 0, 0, 0, []), (6, .iconst 0, 7, 0, 0, 0, 0, []), (7, .putfield 131, 10, 7, 7, 0, 0, []), (10, .iload_n 1, 11, 0, 0, 0, 0, []), (11, .ireturn, 12, 0, 0, 0, 0, [])]
def tbX7_clearText : Nat → pm_E := pm_lk ltX7_clearText
theorem okX7_clearText : ∀ pc, (tbX7_clearText pc).1 = .nop ∨ pm_ok mX7_clearText pw_Ms pc (tbX7_clearText pc) := pm_lk_ok (by decide +kernel)
theorem nr_X7_clearText : mX7_clearText.2.2.2 = (some .int) := rfl
theorem tX7_clearText_0 : tbX7_clearText 0 = (.aload_n 0, 1, 0, 0, 0, 0, []) := rfl
theorem tX7_clearText_1 : tbX7_clearText 1 = (.getfield 131, 4, 7, 7, 0, 0, []) := rfl
theorem tX7_clearText_4 : tbX7_clearText 4 = (.istore_n 1, 5, 0, 0, 0, 0, []) := rfl
theorem tX7_clearText_5 : tbX7_clearText 5 = (.aload_n 0, 6, 0, 0, 0, 0, []) := rfl
theorem tX7_clearText_6 : tbX7_clearText 6 = (.iconst 0, 7, 0, 0, 0, 0, []) := rfl
theorem tX7_clearText_7 : tbX7_clearText 7 = (.putfield 131, 10, 7, 7, 0, 0, []) := rfl
theorem tX7_clearText_10 : tbX7_clearText 10 = (.iload_n 1, 11, 0, 0, 0, 0, []) := rfl
theorem tX7_clearText_11 : tbX7_clearText 11 = (.ireturn, 12, 0, 0, 0, 0, []) := rfl
def ltX7_sees : List (Nat × pm_E) := [(0, .aload_n 0, 1, 0, 0, 0, 0, []), (1, .getfield 134, 4, 7, 9, 0, 0, []), (4, .aload_n 0, 5, 0, 0, 0, 0, []), (5, .getfield 131, 8, 7, 7, 0, 0, []), (8, .if_icmp .ge 20, 11, 28, 0, 0, 0, []), (11, .aload_n 0, 12, 0, 0, 0, 0, []), (12, .getfield 28, 15, 7, 6, 0, 0, [(0, 0)]), (15, .aload_n 0, 16, 0, 0, 0, 0, []), (16, .getfield 134, 19, 7, 9, 0, 0, []), (19, .iaload, 20, 0, 0, 0, 0, []), (20, .iload_n 1, 21, 0, 0, 0, 0, []), (21, .if_icmp .ne 7, 24, 28, 0, 0, 0, []), (24, .iconst 1, 25, 0, 0, 0, 1, []), (25, .goto 4, 28, 29, 0, 0, 0, []), (28, .iconst 0, 29, 0, 0, 0, 0, []), (29, .istore_n 2, 30, 0, 0, 0, 0, []), (30, .aload_n 0, 31, 0, 0, 0, 0, []), (31, .dup, 32, 0, 0, 0, 0, []), (32, .getfield 134, 35, 7, 9, 0, 0, []), (35, .iload_n 2, 36, 0, 0, 0, 0, []), (36, .ifCond .eq 7, 39, 43, 0, 0, 0, []), (39, .iconst 1, 40, 0, 0, 0, 1, []), (40, .goto 4, 43, 44, 0, 0, 0, []), (43, .iconst 0, 44, 0, 0, 0, 0, []), (44, .iadd, 45, 0, 0, 0, 0, []), (45, .putfield 134, 48, 7, 9, 0, 0, []), (48, .iload_n 2, 49, 0, 0, 0, 0, []), (49, .ireturn, 50, 0, 0, 0, 0, [])]
def tbX7_sees : Nat → pm_E := pm_lk ltX7_sees
theorem okX7_sees : ∀ pc, (tbX7_sees pc).1 = .nop ∨ pm_ok mX7_sees pw_Ms pc (tbX7_sees pc) := pm_lk_ok (by decide +kernel)
theorem nr_X7_sees : mX7_sees.2.2.2 = (some .boolean) := rfl
theorem tX7_sees_0 : tbX7_sees 0 = (.aload_n 0, 1, 0, 0, 0, 0, []) := rfl
theorem tX7_sees_1 : tbX7_sees 1 = (.getfield 134, 4, 7, 9, 0, 0, []) := rfl
theorem tX7_sees_4 : tbX7_sees 4 = (.aload_n 0, 5, 0, 0, 0, 0, []) := rfl
theorem tX7_sees_5 : tbX7_sees 5 = (.getfield 131, 8, 7, 7, 0, 0, []) := rfl
theorem tX7_sees_8 : tbX7_sees 8 = (.if_icmp .ge 20, 11, 28, 0, 0, 0, []) := rfl
theorem tX7_sees_11 : tbX7_sees 11 = (.aload_n 0, 12, 0, 0, 0, 0, []) := rfl
theorem tX7_sees_12 : tbX7_sees 12 = (.getfield 28, 15, 7, 6, 0, 0, [(0, 0)]) := rfl
theorem tX7_sees_15 : tbX7_sees 15 = (.aload_n 0, 16, 0, 0, 0, 0, []) := rfl
theorem tX7_sees_16 : tbX7_sees 16 = (.getfield 134, 19, 7, 9, 0, 0, []) := rfl
theorem tX7_sees_19 : tbX7_sees 19 = (.iaload, 20, 0, 0, 0, 0, []) := rfl
theorem tX7_sees_20 : tbX7_sees 20 = (.iload_n 1, 21, 0, 0, 0, 0, []) := rfl
theorem tX7_sees_21 : tbX7_sees 21 = (.if_icmp .ne 7, 24, 28, 0, 0, 0, []) := rfl
theorem tX7_sees_24 : tbX7_sees 24 = (.iconst 1, 25, 0, 0, 0, 1, []) := rfl
theorem tX7_sees_25 : tbX7_sees 25 = (.goto 4, 28, 29, 0, 0, 0, []) := rfl
theorem tX7_sees_28 : tbX7_sees 28 = (.iconst 0, 29, 0, 0, 0, 0, []) := rfl
theorem tX7_sees_29 : tbX7_sees 29 = (.istore_n 2, 30, 0, 0, 0, 0, []) := rfl
theorem tX7_sees_30 : tbX7_sees 30 = (.aload_n 0, 31, 0, 0, 0, 0, []) := rfl
theorem tX7_sees_31 : tbX7_sees 31 = (.dup, 32, 0, 0, 0, 0, []) := rfl
theorem tX7_sees_32 : tbX7_sees 32 = (.getfield 134, 35, 7, 9, 0, 0, []) := rfl
theorem tX7_sees_35 : tbX7_sees 35 = (.iload_n 2, 36, 0, 0, 0, 0, []) := rfl
theorem tX7_sees_36 : tbX7_sees 36 = (.ifCond .eq 7, 39, 43, 0, 0, 0, []) := rfl
theorem tX7_sees_39 : tbX7_sees 39 = (.iconst 1, 40, 0, 0, 0, 1, []) := rfl
theorem tX7_sees_40 : tbX7_sees 40 = (.goto 4, 43, 44, 0, 0, 0, []) := rfl
theorem tX7_sees_43 : tbX7_sees 43 = (.iconst 0, 44, 0, 0, 0, 0, []) := rfl
theorem tX7_sees_44 : tbX7_sees 44 = (.iadd, 45, 0, 0, 0, 0, []) := rfl
theorem tX7_sees_45 : tbX7_sees 45 = (.putfield 134, 48, 7, 9, 0, 0, []) := rfl
theorem tX7_sees_48 : tbX7_sees 48 = (.iload_n 2, 49, 0, 0, 0, 0, []) := rfl
theorem tX7_sees_49 : tbX7_sees 49 = (.ireturn, 50, 0, 0, 0, 0, []) := rfl
def ltX7_number : List (Nat × pm_E) := [(0, .iconst (-1), 1, 0, 0, 0, -1, []), (1, .istore_n 1, 2, 0, 0, 0, 0, []), (2, .iconst 0, 3, 0, 0, 0, 0, []), (3, .istore_n 2, 4, 0, 0, 0, 0, []), (4, .iload_n 2, 5, 0, 0, 0, 0, []), (5, .iconst 2, 6, 0, 0, 0, 2, []), (6, .if_icmp .ge 75, 9, 81, 0, 0, 0, []), (9, .aload_n 0, 10, 0, 0, 0, 0, []), (10, .getfield 134, 13, 7, 9, 0, 0, []), (13, .aload_n 0, 14, 0, 0, 0, 0, []), (14, .getfield 131, 17, 7, 7, 0, 0, []), (17, .if_icmp .ge 64, 20, 81, 0, 0, 0, []), (20, .aload_n 0, 21, 0, 0, 0, 0, []), (21, .getfield 28, 24, 7, 6, 0, 0, [(0, 0)]), (24, .aload_n 0, 25, 0, 0, 0, 0, []), (25, .getfield 134, 28, 7, 9, 0, 0, []), (28, .iaload, 29, 0, 0, 0, 0, []), (29, .bipush 48, 31, 0, 0, 0, 48, []), (31, .bipush 57, 33, 0, 0, 0, 57, []), (33, .invokestatic 35, 36, 94, 3, 0, 0, []), (36, .ifCond .eq 45, 39, 81, 0, 0, 0, []), (39, .iload_n 1, 40, 0, 0, 0, 0, []), (40, .ifCond .ge 7, 43, 47, 0, 0, 0, []), (43, .iconst 0, 44, 0, 0, 0, 0, []), (44, .goto 7, 47, 51, 0, 0, 0, []), (47, .bipush 10, 49, 0, 0, 0, 10, []), (49, .iload_n 1, 50, 0, 0, 0, 0, []), (50, .imul, 51, 0, 0, 0, 0, []), (51, .aload_n 0, 52, 0, 0, 0, 0, []), (52, .getfield 28, 55, 7, 6, 0, 0, [(0, 0)]), (55, .aload_n 0, 56, 0, 0, 0, 0, []), (56, .getfield 134, 59, 7, 9, 0, 0, []), (59, .iaload, 60, 0, 0, 0, 0, []), (60, .iadd, 61, 0, 0, 0, 0, []), (61, .bipush 48, 63, 0, 0, 0, 48, []), (63, .isub, 64, 0, 0, 0, 0, []), (64, .istore_n 1, 65, 0, 0, 0, 0, []), (65, .aload_n 0, 66, 0, 0, 0, 0, []), (66, .dup, 67, 0, 0, 0, 0, []), (67, .getfield 134, 70, 7, 9, 0, 0, []), (70, .iconst 1, 71, 0, 0, 0, 1, []), (71, .iadd, 72, 0, 0, 0, 0, []), (72, .putfield 134, 75, 7, 9, 0, 0, []), (75, .iinc 2 1, 78, 0, 0, 0, 1, []), (78, .goto (-74), 81, 4, 0, 0, 0, []), (81, .iload_n 1, 82, 0, 0, 0, 0, []), (82, .ireturn, 83, 0, 0, 0, 0, [])]
def tbX7_number : Nat → pm_E := pm_lk ltX7_number
theorem okX7_number : ∀ pc, (tbX7_number pc).1 = .nop ∨ pm_ok mX7_number pw_Ms pc (tbX7_number pc) := pm_lk_ok (by decide +kernel)
theorem nr_X7_number : mX7_number.2.2.2 = (some .int) := rfl
theorem tX7_number_0 : tbX7_number 0 = (.iconst (-1), 1, 0, 0, 0, -1, []) := rfl
theorem tX7_number_1 : tbX7_number 1 = (.istore_n 1, 2, 0, 0, 0, 0, []) := rfl
theorem tX7_number_2 : tbX7_number 2 = (.iconst 0, 3, 0, 0, 0, 0, []) := rfl
theorem tX7_number_3 : tbX7_number 3 = (.istore_n 2, 4, 0, 0, 0, 0, []) := rfl
theorem tX7_number_4 : tbX7_number 4 = (.iload_n 2, 5, 0, 0, 0, 0, []) := rfl
theorem tX7_number_5 : tbX7_number 5 = (.iconst 2, 6, 0, 0, 0, 2, []) := rfl
theorem tX7_number_6 : tbX7_number 6 = (.if_icmp .ge 75, 9, 81, 0, 0, 0, []) := rfl
theorem tX7_number_9 : tbX7_number 9 = (.aload_n 0, 10, 0, 0, 0, 0, []) := rfl
theorem tX7_number_10 : tbX7_number 10 = (.getfield 134, 13, 7, 9, 0, 0, []) := rfl
theorem tX7_number_13 : tbX7_number 13 = (.aload_n 0, 14, 0, 0, 0, 0, []) := rfl
theorem tX7_number_14 : tbX7_number 14 = (.getfield 131, 17, 7, 7, 0, 0, []) := rfl
theorem tX7_number_17 : tbX7_number 17 = (.if_icmp .ge 64, 20, 81, 0, 0, 0, []) := rfl
theorem tX7_number_20 : tbX7_number 20 = (.aload_n 0, 21, 0, 0, 0, 0, []) := rfl
theorem tX7_number_21 : tbX7_number 21 = (.getfield 28, 24, 7, 6, 0, 0, [(0, 0)]) := rfl
theorem tX7_number_24 : tbX7_number 24 = (.aload_n 0, 25, 0, 0, 0, 0, []) := rfl
theorem tX7_number_25 : tbX7_number 25 = (.getfield 134, 28, 7, 9, 0, 0, []) := rfl
theorem tX7_number_28 : tbX7_number 28 = (.iaload, 29, 0, 0, 0, 0, []) := rfl
theorem tX7_number_29 : tbX7_number 29 = (.bipush 48, 31, 0, 0, 0, 48, []) := rfl
theorem tX7_number_31 : tbX7_number 31 = (.bipush 57, 33, 0, 0, 0, 57, []) := rfl
theorem tX7_number_33 : tbX7_number 33 = (.invokestatic 35, 36, 94, 3, 0, 0, []) := rfl
theorem tX7_number_36 : tbX7_number 36 = (.ifCond .eq 45, 39, 81, 0, 0, 0, []) := rfl
theorem tX7_number_39 : tbX7_number 39 = (.iload_n 1, 40, 0, 0, 0, 0, []) := rfl
theorem tX7_number_40 : tbX7_number 40 = (.ifCond .ge 7, 43, 47, 0, 0, 0, []) := rfl
theorem tX7_number_43 : tbX7_number 43 = (.iconst 0, 44, 0, 0, 0, 0, []) := rfl
theorem tX7_number_44 : tbX7_number 44 = (.goto 7, 47, 51, 0, 0, 0, []) := rfl
theorem tX7_number_47 : tbX7_number 47 = (.bipush 10, 49, 0, 0, 0, 10, []) := rfl
theorem tX7_number_49 : tbX7_number 49 = (.iload_n 1, 50, 0, 0, 0, 0, []) := rfl
theorem tX7_number_50 : tbX7_number 50 = (.imul, 51, 0, 0, 0, 0, []) := rfl
theorem tX7_number_51 : tbX7_number 51 = (.aload_n 0, 52, 0, 0, 0, 0, []) := rfl
theorem tX7_number_52 : tbX7_number 52 = (.getfield 28, 55, 7, 6, 0, 0, [(0, 0)]) := rfl
theorem tX7_number_55 : tbX7_number 55 = (.aload_n 0, 56, 0, 0, 0, 0, []) := rfl
theorem tX7_number_56 : tbX7_number 56 = (.getfield 134, 59, 7, 9, 0, 0, []) := rfl
theorem tX7_number_59 : tbX7_number 59 = (.iaload, 60, 0, 0, 0, 0, []) := rfl
theorem tX7_number_60 : tbX7_number 60 = (.iadd, 61, 0, 0, 0, 0, []) := rfl
theorem tX7_number_61 : tbX7_number 61 = (.bipush 48, 63, 0, 0, 0, 48, []) := rfl
theorem tX7_number_63 : tbX7_number 63 = (.isub, 64, 0, 0, 0, 0, []) := rfl
theorem tX7_number_64 : tbX7_number 64 = (.istore_n 1, 65, 0, 0, 0, 0, []) := rfl
theorem tX7_number_65 : tbX7_number 65 = (.aload_n 0, 66, 0, 0, 0, 0, []) := rfl
theorem tX7_number_66 : tbX7_number 66 = (.dup, 67, 0, 0, 0, 0, []) := rfl
theorem tX7_number_67 : tbX7_number 67 = (.getfield 134, 70, 7, 9, 0, 0, []) := rfl
theorem tX7_number_70 : tbX7_number 70 = (.iconst 1, 71, 0, 0, 0, 1, []) := rfl
theorem tX7_number_71 : tbX7_number 71 = (.iadd, 72, 0, 0, 0, 0, []) := rfl
theorem tX7_number_72 : tbX7_number 72 = (.putfield 134, 75, 7, 9, 0, 0, []) := rfl
theorem tX7_number_75 : tbX7_number 75 = (.iinc 2 1, 78, 0, 0, 0, 1, []) := rfl
theorem tX7_number_78 : tbX7_number 78 = (.goto (-74), 81, 4, 0, 0, 0, []) := rfl
theorem tX7_number_81 : tbX7_number 81 = (.iload_n 1, 82, 0, 0, 0, 0, []) := rfl
theorem tX7_number_82 : tbX7_number 82 = (.ireturn, 83, 0, 0, 0, 0, []) := rfl
def ltX7_isForm : List (Nat × pm_E) := [(0, .aload_n 0, 1, 0, 0, 0, 0, []), (1, .iconst 0, 2, 0, 0, 0, 0, []), (2, .putfield 137, 5, 7, 10, 0, 0, []), (5, .aload_n 0, 6, 0, 0, 0, 0, []), (6, .iconst 0, 7, 0, 0, 0, 0, []), (7, .putfield 140, 10, 7, 11, 0, 0, []), (10, .iconst 1, 11, 0, 0, 0, 1, []), (11, .istore_n 2, 12, 0, 0, 0, 0, []), (12, .iload_n 1, 13, 0, 0, 0, 0, []), (13, .bipush 101, 15, 0, 0, 0, 101, []), (15, .if_icmp .eq 21, 18, 36, 0, 0, 0, []), (18, .iload_n 1, 19, 0, 0, 0, 0, []), (19, .bipush 108, 21, 0, 0, 0, 108, []), (21, .if_icmp .eq 15, 24, 36, 0, 0, 0, []), (24, .iload_n 1, 25, 0, 0, 0, 0, []), (25, .bipush 109, 27, 0, 0, 0, 109, []), (27, .if_icmp .eq 9, 30, 36, 0, 0, 0, []), (30, .iload_n 1, 31, 0, 0, 0, 0, []), (31, .bipush 116, 33, 0, 0, 0, 116, []), (33, .if_icmp .ne 24, 36, 57, 0, 0, 0, []), (36, .aload_n 0, 37, 0, 0, 0, 0, []), (37, .aload_n 0, 38, 0, 0, 0, 0, []), (38, .invokevirtual 143, 41, 147, 0, 7, 0, []), (41, .putfield 137, 44, 7, 10, 0, 0, []), (44, .aload_n 0, 45, 0, 0, 0, 0, []), (45, .getfield 137, 48, 7, 10, 0, 0, []), (48, .ifCond .lt 7, 51, 55, 0, 0, 0, []), (51, .iconst 1, 52, 0, 0, 0, 1, []), (52, .goto 4, 55, 56, 0, 0, 0, []), (55, .iconst 0, 56, 0, 0, 0, 0, []), (56, .istore_n 2, 57, 0, 0, 0, 0, []), (57, .iload_n 2, 58, 0, 0, 0, 0, []), (58, .ifCond .eq 51, 61, 109, 0, 0, 0, []), (61, .iload_n 1, 62, 0, 0, 0, 0, []), (62, .bipush 108, 64, 0, 0, 0, 108, []), (64, .if_icmp .eq 9, 67, 73, 0, 0, 0, []), (67, .iload_n 1, 68, 0, 0, 0, 0, []), (68, .bipush 109, 70, 0, 0, 0, 109, []), (70, .if_icmp .ne 39, 73, 109, 0, 0, 0, []), (73, .aload_n 0, 74, 0, 0, 0, 0, []), (74, .bipush 44, 76, 0, 0, 0, 44, []), (76, .invokevirtual 146, 79, 146, 1, 7, 0, []), (79, .istore_n 2, 80, 0, 0, 0, 0, []), (80, .aload_n 0, 81, 0, 0, 0, 0, []), (81, .iload_n 2, 82, 0, 0, 0, 0, []), (82, .ifCond .eq 10, 85, 92, 0, 0, 0, []), (85, .aload_n 0, 86, 0, 0, 0, 0, []), (86, .invokevirtual 143, 89, 147, 0, 7, 0, []), (89, .goto 4, 92, 93, 0, 0, 0, []), (92, .iconst (-1), 93, 0, 0, 0, -1, []), (93, .putfield 140, 96, 7, 11, 0, 0, []), (96, .aload_n 0, 97, 0, 0, 0, 0, []), (97, .getfield 140, 100, 7, 11, 0, 0, []), (100, .ifCond .lt 7, 103, 107, 0, 0, 0, []), (103, .iconst 1, 104, 0, 0, 0, 1, []), (104, .goto 4, 107, 108, 0, 0, 0, []), (107, .iconst 0, 108, 0, 0, 0, 0, []), (108, .istore_n 2, 109, 0, 0, 0, 0, []), (109, .iload_n 2, 110, 0, 0, 0, 0, []), (110, .ifCond .eq 16, 113, 126, 0, 0, 0, []), (113, .aload_n 0, 114, 0, 0, 0, 0, []), (114, .bipush 59, 116, 0, 0, 0, 59, []), (116, .invokevirtual 146, 119, 146, 1, 7, 0, []), (119, .ifCond .eq 7, 122, 126, 0, 0, 0, []), (122, .iconst 1, 123, 0, 0, 0, 1, []), (123, .goto 4, 126, 127, 0, 0, 0, []), (126, .iconst 0, 127, 0, 0, 0, 0, []), (127, .ireturn, 128, 0, 0, 0, 0, [])]
def tbX7_isForm : Nat → pm_E := pm_lk ltX7_isForm
theorem okX7_isForm : ∀ pc, (tbX7_isForm pc).1 = .nop ∨ pm_ok mX7_isForm pw_Ms pc (tbX7_isForm pc) := pm_lk_ok (by decide +kernel)
theorem nr_X7_isForm : mX7_isForm.2.2.2 = (some .boolean) := rfl
theorem tX7_isForm_0 : tbX7_isForm 0 = (.aload_n 0, 1, 0, 0, 0, 0, []) := rfl
theorem tX7_isForm_1 : tbX7_isForm 1 = (.iconst 0, 2, 0, 0, 0, 0, []) := rfl
theorem tX7_isForm_2 : tbX7_isForm 2 = (.putfield 137, 5, 7, 10, 0, 0, []) := rfl
theorem tX7_isForm_5 : tbX7_isForm 5 = (.aload_n 0, 6, 0, 0, 0, 0, []) := rfl
theorem tX7_isForm_6 : tbX7_isForm 6 = (.iconst 0, 7, 0, 0, 0, 0, []) := rfl
theorem tX7_isForm_7 : tbX7_isForm 7 = (.putfield 140, 10, 7, 11, 0, 0, []) := rfl
theorem tX7_isForm_10 : tbX7_isForm 10 = (.iconst 1, 11, 0, 0, 0, 1, []) := rfl
theorem tX7_isForm_11 : tbX7_isForm 11 = (.istore_n 2, 12, 0, 0, 0, 0, []) := rfl
theorem tX7_isForm_12 : tbX7_isForm 12 = (.iload_n 1, 13, 0, 0, 0, 0, []) := rfl
theorem tX7_isForm_13 : tbX7_isForm 13 = (.bipush 101, 15, 0, 0, 0, 101, []) := rfl
theorem tX7_isForm_15 : tbX7_isForm 15 = (.if_icmp .eq 21, 18, 36, 0, 0, 0, []) := rfl
theorem tX7_isForm_18 : tbX7_isForm 18 = (.iload_n 1, 19, 0, 0, 0, 0, []) := rfl
theorem tX7_isForm_19 : tbX7_isForm 19 = (.bipush 108, 21, 0, 0, 0, 108, []) := rfl
theorem tX7_isForm_21 : tbX7_isForm 21 = (.if_icmp .eq 15, 24, 36, 0, 0, 0, []) := rfl
theorem tX7_isForm_24 : tbX7_isForm 24 = (.iload_n 1, 25, 0, 0, 0, 0, []) := rfl
theorem tX7_isForm_25 : tbX7_isForm 25 = (.bipush 109, 27, 0, 0, 0, 109, []) := rfl
theorem tX7_isForm_27 : tbX7_isForm 27 = (.if_icmp .eq 9, 30, 36, 0, 0, 0, []) := rfl
theorem tX7_isForm_30 : tbX7_isForm 30 = (.iload_n 1, 31, 0, 0, 0, 0, []) := rfl
theorem tX7_isForm_31 : tbX7_isForm 31 = (.bipush 116, 33, 0, 0, 0, 116, []) := rfl
theorem tX7_isForm_33 : tbX7_isForm 33 = (.if_icmp .ne 24, 36, 57, 0, 0, 0, []) := rfl
theorem tX7_isForm_36 : tbX7_isForm 36 = (.aload_n 0, 37, 0, 0, 0, 0, []) := rfl
theorem tX7_isForm_37 : tbX7_isForm 37 = (.aload_n 0, 38, 0, 0, 0, 0, []) := rfl
theorem tX7_isForm_38 : tbX7_isForm 38 = (.invokevirtual 143, 41, 147, 0, 7, 0, []) := rfl
theorem tX7_isForm_41 : tbX7_isForm 41 = (.putfield 137, 44, 7, 10, 0, 0, []) := rfl
theorem tX7_isForm_44 : tbX7_isForm 44 = (.aload_n 0, 45, 0, 0, 0, 0, []) := rfl
theorem tX7_isForm_45 : tbX7_isForm 45 = (.getfield 137, 48, 7, 10, 0, 0, []) := rfl
theorem tX7_isForm_48 : tbX7_isForm 48 = (.ifCond .lt 7, 51, 55, 0, 0, 0, []) := rfl
theorem tX7_isForm_51 : tbX7_isForm 51 = (.iconst 1, 52, 0, 0, 0, 1, []) := rfl
theorem tX7_isForm_52 : tbX7_isForm 52 = (.goto 4, 55, 56, 0, 0, 0, []) := rfl
theorem tX7_isForm_55 : tbX7_isForm 55 = (.iconst 0, 56, 0, 0, 0, 0, []) := rfl
theorem tX7_isForm_56 : tbX7_isForm 56 = (.istore_n 2, 57, 0, 0, 0, 0, []) := rfl
theorem tX7_isForm_57 : tbX7_isForm 57 = (.iload_n 2, 58, 0, 0, 0, 0, []) := rfl
theorem tX7_isForm_58 : tbX7_isForm 58 = (.ifCond .eq 51, 61, 109, 0, 0, 0, []) := rfl
theorem tX7_isForm_61 : tbX7_isForm 61 = (.iload_n 1, 62, 0, 0, 0, 0, []) := rfl
theorem tX7_isForm_62 : tbX7_isForm 62 = (.bipush 108, 64, 0, 0, 0, 108, []) := rfl
theorem tX7_isForm_64 : tbX7_isForm 64 = (.if_icmp .eq 9, 67, 73, 0, 0, 0, []) := rfl
theorem tX7_isForm_67 : tbX7_isForm 67 = (.iload_n 1, 68, 0, 0, 0, 0, []) := rfl
theorem tX7_isForm_68 : tbX7_isForm 68 = (.bipush 109, 70, 0, 0, 0, 109, []) := rfl
theorem tX7_isForm_70 : tbX7_isForm 70 = (.if_icmp .ne 39, 73, 109, 0, 0, 0, []) := rfl
theorem tX7_isForm_73 : tbX7_isForm 73 = (.aload_n 0, 74, 0, 0, 0, 0, []) := rfl
theorem tX7_isForm_74 : tbX7_isForm 74 = (.bipush 44, 76, 0, 0, 0, 44, []) := rfl
theorem tX7_isForm_76 : tbX7_isForm 76 = (.invokevirtual 146, 79, 146, 1, 7, 0, []) := rfl
theorem tX7_isForm_79 : tbX7_isForm 79 = (.istore_n 2, 80, 0, 0, 0, 0, []) := rfl
theorem tX7_isForm_80 : tbX7_isForm 80 = (.aload_n 0, 81, 0, 0, 0, 0, []) := rfl
theorem tX7_isForm_81 : tbX7_isForm 81 = (.iload_n 2, 82, 0, 0, 0, 0, []) := rfl
theorem tX7_isForm_82 : tbX7_isForm 82 = (.ifCond .eq 10, 85, 92, 0, 0, 0, []) := rfl
theorem tX7_isForm_85 : tbX7_isForm 85 = (.aload_n 0, 86, 0, 0, 0, 0, []) := rfl
theorem tX7_isForm_86 : tbX7_isForm 86 = (.invokevirtual 143, 89, 147, 0, 7, 0, []) := rfl
theorem tX7_isForm_89 : tbX7_isForm 89 = (.goto 4, 92, 93, 0, 0, 0, []) := rfl
theorem tX7_isForm_92 : tbX7_isForm 92 = (.iconst (-1), 93, 0, 0, 0, -1, []) := rfl
theorem tX7_isForm_93 : tbX7_isForm 93 = (.putfield 140, 96, 7, 11, 0, 0, []) := rfl
theorem tX7_isForm_96 : tbX7_isForm 96 = (.aload_n 0, 97, 0, 0, 0, 0, []) := rfl
theorem tX7_isForm_97 : tbX7_isForm 97 = (.getfield 140, 100, 7, 11, 0, 0, []) := rfl
theorem tX7_isForm_100 : tbX7_isForm 100 = (.ifCond .lt 7, 103, 107, 0, 0, 0, []) := rfl
theorem tX7_isForm_103 : tbX7_isForm 103 = (.iconst 1, 104, 0, 0, 0, 1, []) := rfl
theorem tX7_isForm_104 : tbX7_isForm 104 = (.goto 4, 107, 108, 0, 0, 0, []) := rfl
theorem tX7_isForm_107 : tbX7_isForm 107 = (.iconst 0, 108, 0, 0, 0, 0, []) := rfl
theorem tX7_isForm_108 : tbX7_isForm 108 = (.istore_n 2, 109, 0, 0, 0, 0, []) := rfl
theorem tX7_isForm_109 : tbX7_isForm 109 = (.iload_n 2, 110, 0, 0, 0, 0, []) := rfl
theorem tX7_isForm_110 : tbX7_isForm 110 = (.ifCond .eq 16, 113, 126, 0, 0, 0, []) := rfl
theorem tX7_isForm_113 : tbX7_isForm 113 = (.aload_n 0, 114, 0, 0, 0, 0, []) := rfl
theorem tX7_isForm_114 : tbX7_isForm 114 = (.bipush 59, 116, 0, 0, 0, 59, []) := rfl
theorem tX7_isForm_116 : tbX7_isForm 116 = (.invokevirtual 146, 119, 146, 1, 7, 0, []) := rfl
theorem tX7_isForm_119 : tbX7_isForm 119 = (.ifCond .eq 7, 122, 126, 0, 0, 0, []) := rfl
theorem tX7_isForm_122 : tbX7_isForm 122 = (.iconst 1, 123, 0, 0, 0, 1, []) := rfl
theorem tX7_isForm_123 : tbX7_isForm 123 = (.goto 4, 126, 127, 0, 0, 0, []) := rfl
theorem tX7_isForm_126 : tbX7_isForm 126 = (.iconst 0, 127, 0, 0, 0, 0, []) := rfl
theorem tX7_isForm_127 : tbX7_isForm 127 = (.ireturn, 128, 0, 0, 0, 0, []) := rfl
def ltX7_isRange : List (Nat × pm_E) := [(0, .iload_n 1, 1, 0, 0, 0, 0, []), (1, .lookupswitch 92 #[(101, 43), (108, 52), (109, 52), (116, 79)], 44, 93, 0, 0, 0, [(101, 44), (108, 53), (109, 53), (116, 80)]), (44, .aload_n 0, 45, 0, 0, 0, 0, []), (45, .aload_n 0, 46, 0, 0, 0, 0, []), (46, .getfield 137, 49, 7, 10, 0, 0, []), (49, .invokevirtual 64, 52, 101, 1, 7, 0, []), (52, .ireturn, 53, 0, 0, 0, 0, []), (53, .aload_n 0, 54, 0, 0, 0, 0, []), (54, .aload_n 0, 55, 0, 0, 0, 0, []), (55, .getfield 137, 58, 7, 10, 0, 0, []), (58, .invokevirtual 64, 61, 101, 1, 7, 0, []), (61, .ifCond .eq 17, 64, 78, 0, 0, 0, []), (64, .aload_n 0, 65, 0, 0, 0, 0, []), (65, .getfield 140, 68, 7, 11, 0, 0, []), (68, .invokestatic 47, 71, 102, 1, 0, 0, []), (71, .ifCond .eq 7, 74, 78, 0, 0, 0, []), (74, .iconst 1, 75, 0, 0, 0, 1, []), (75, .goto 4, 78, 79, 0, 0, 0, []), (78, .iconst 0, 79, 0, 0, 0, 0, []), (79, .ireturn, 80, 0, 0, 0, 0, []), (80, .aload_n 0, 81, 0, 0, 0, 0, []), (81, .getfield 137, 84, 7, 10, 0, 0, []), (84, .ifCond .le 7, 87, 91, 0, 0, 0, []), (87, .iconst 1, 88, 0, 0, 0, 1, []), (88, .goto 4, 91, 92, 0, 0, 0, []), (91, .iconst 0, 92, 0, 0, 0, 0, []), (92, .ireturn, 93, 0, 0, 0, 0, []), (93, .iconst 1, 94, 0, 0, 0, 1, []), (94, .ireturn, 95, 0, 0, 0, 0, [])]
def tbX7_isRange : Nat → pm_E := pm_lk ltX7_isRange
theorem okX7_isRange : ∀ pc, (tbX7_isRange pc).1 = .nop ∨ pm_ok mX7_isRange pw_Ms pc (tbX7_isRange pc) := pm_lk_ok (by decide +kernel)
theorem nr_X7_isRange : mX7_isRange.2.2.2 = (some .boolean) := rfl
theorem tX7_isRange_0 : tbX7_isRange 0 = (.iload_n 1, 1, 0, 0, 0, 0, []) := rfl
theorem tX7_isRange_1 : tbX7_isRange 1 = (.lookupswitch 92 #[(101, 43), (108, 52), (109, 52), (116, 79)], 44, 93, 0, 0, 0, [(101, 44), (108, 53), (109, 53), (116, 80)]) := rfl
theorem tX7_isRange_44 : tbX7_isRange 44 = (.aload_n 0, 45, 0, 0, 0, 0, []) := rfl
theorem tX7_isRange_45 : tbX7_isRange 45 = (.aload_n 0, 46, 0, 0, 0, 0, []) := rfl
theorem tX7_isRange_46 : tbX7_isRange 46 = (.getfield 137, 49, 7, 10, 0, 0, []) := rfl
theorem tX7_isRange_49 : tbX7_isRange 49 = (.invokevirtual 64, 52, 101, 1, 7, 0, []) := rfl
theorem tX7_isRange_52 : tbX7_isRange 52 = (.ireturn, 53, 0, 0, 0, 0, []) := rfl
theorem tX7_isRange_53 : tbX7_isRange 53 = (.aload_n 0, 54, 0, 0, 0, 0, []) := rfl
theorem tX7_isRange_54 : tbX7_isRange 54 = (.aload_n 0, 55, 0, 0, 0, 0, []) := rfl
theorem tX7_isRange_55 : tbX7_isRange 55 = (.getfield 137, 58, 7, 10, 0, 0, []) := rfl
theorem tX7_isRange_58 : tbX7_isRange 58 = (.invokevirtual 64, 61, 101, 1, 7, 0, []) := rfl
theorem tX7_isRange_61 : tbX7_isRange 61 = (.ifCond .eq 17, 64, 78, 0, 0, 0, []) := rfl
theorem tX7_isRange_64 : tbX7_isRange 64 = (.aload_n 0, 65, 0, 0, 0, 0, []) := rfl
theorem tX7_isRange_65 : tbX7_isRange 65 = (.getfield 140, 68, 7, 11, 0, 0, []) := rfl
theorem tX7_isRange_68 : tbX7_isRange 68 = (.invokestatic 47, 71, 102, 1, 0, 0, []) := rfl
theorem tX7_isRange_71 : tbX7_isRange 71 = (.ifCond .eq 7, 74, 78, 0, 0, 0, []) := rfl
theorem tX7_isRange_74 : tbX7_isRange 74 = (.iconst 1, 75, 0, 0, 0, 1, []) := rfl
theorem tX7_isRange_75 : tbX7_isRange 75 = (.goto 4, 78, 79, 0, 0, 0, []) := rfl
theorem tX7_isRange_78 : tbX7_isRange 78 = (.iconst 0, 79, 0, 0, 0, 0, []) := rfl
theorem tX7_isRange_79 : tbX7_isRange 79 = (.ireturn, 80, 0, 0, 0, 0, []) := rfl
theorem tX7_isRange_80 : tbX7_isRange 80 = (.aload_n 0, 81, 0, 0, 0, 0, []) := rfl
theorem tX7_isRange_81 : tbX7_isRange 81 = (.getfield 137, 84, 7, 10, 0, 0, []) := rfl
theorem tX7_isRange_84 : tbX7_isRange 84 = (.ifCond .le 7, 87, 91, 0, 0, 0, []) := rfl
theorem tX7_isRange_87 : tbX7_isRange 87 = (.iconst 1, 88, 0, 0, 0, 1, []) := rfl
theorem tX7_isRange_88 : tbX7_isRange 88 = (.goto 4, 91, 92, 0, 0, 0, []) := rfl
theorem tX7_isRange_91 : tbX7_isRange 91 = (.iconst 0, 92, 0, 0, 0, 0, []) := rfl
theorem tX7_isRange_92 : tbX7_isRange 92 = (.ireturn, 93, 0, 0, 0, 0, []) := rfl
theorem tX7_isRange_93 : tbX7_isRange 93 = (.iconst 1, 94, 0, 0, 0, 1, []) := rfl
theorem tX7_isRange_94 : tbX7_isRange 94 = (.ireturn, 95, 0, 0, 0, 0, []) := rfl
def ltX7_isPossible : List (Nat × pm_E) := [(0, .iload_n 1, 1, 0, 0, 0, 0, []), (1, .lookupswitch 154 #[(100, 138), (101, 51), (108, 74), (109, 87), (120, 114)], 52, 155, 0, 0, 0, [(100, 139), (101, 52), (108, 75), (109, 88), (120, 115)]), (52, .aload_n 0, 53, 0, 0, 0, 0, []), (53, .getfield 7, 56, 7, 0, 0, 0, [(0, 0)]), (56, .aload_n 0, 57, 0, 0, 0, 0, []), (57, .getfield 137, 60, 7, 10, 0, 0, []), (60, .invokestatic 57, 63, 99, 1, 0, 0, []), (63, .iconst 2, 64, 0, 0, 0, 2, []), (64, .iadd, 65, 0, 0, 0, 0, []), (65, .iaload, 66, 0, 0, 0, 0, []), (66, .ifCond .ne 7, 69, 73, 0, 0, 0, []), (69, .iconst 1, 70, 0, 0, 0, 1, []), (70, .goto 4, 73, 74, 0, 0, 0, []), (73, .iconst 0, 74, 0, 0, 0, 0, []), (74, .ireturn, 75, 0, 0, 0, 0, []), (75, .aload_n 0, 76, 0, 0, 0, 0, []), (76, .aload_n 0, 77, 0, 0, 0, 0, []), (77, .getfield 137, 80, 7, 10, 0, 0, []), (80, .aload_n 0, 81, 0, 0, 0, 0, []), (81, .getfield 140, 84, 7, 11, 0, 0, []), (84, .invokevirtual 99, 87, 127, 2, 7, 0, []), (87, .ireturn, 88, 0, 0, 0, 0, []), (88, .aload_n 0, 89, 0, 0, 0, 0, []), (89, .getfield 7, 92, 7, 0, 0, 0, [(0, 0)]), (92, .aload_n 0, 93, 0, 0, 0, 0, []), (93, .getfield 137, 96, 7, 10, 0, 0, []), (96, .invokestatic 57, 99, 99, 1, 0, 0, []), (99, .iconst 5, 100, 0, 0, 0, 5, []), (100, .iadd, 101, 0, 0, 0, 0, []), (101, .iaload, 102, 0, 0, 0, 0, []), (102, .aload_n 0, 103, 0, 0, 0, 0, []), (103, .getfield 140, 106, 7, 11, 0, 0, []), (106, .if_icmp .eq 7, 109, 113, 0, 0, 0, []), (109, .iconst 1, 110, 0, 0, 0, 1, []), (110, .goto 4, 113, 114, 0, 0, 0, []), (113, .iconst 0, 114, 0, 0, 0, 0, []), (114, .ireturn, 115, 0, 0, 0, 0, []), (115, .aload_n 0, 116, 0, 0, 0, 0, []), (116, .getfield 7, 119, 7, 0, 0, 0, [(0, 0)]), (119, .bipush 10, 121, 0, 0, 0, 10, []), (121, .iaload, 122, 0, 0, 0, 0, []), (122, .iconst 4, 123, 0, 0, 0, 4, []), (123, .if_icmp .ge 14, 126, 137, 0, 0, 0, []), (126, .aload_n 0, 127, 0, 0, 0, 0, []), (127, .invokevirtual 102, 130, 116, 0, 7, 0, []), (130, .ifCond .lt 7, 133, 137, 0, 0, 0, []), (133, .iconst 1, 134, 0, 0, 0, 1, []), (134, .goto 4, 137, 138, 0, 0, 0, []), (137, .iconst 0, 138, 0, 0, 0, 0, []), (138, .ireturn, 139, 0, 0, 0, 0, []), (139, .aload_n 0, 140, 0, 0, 0, 0, []), (140, .getfield 7, 143, 7, 0, 0, 0, [(0, 0)]), (143, .bipush 10, 145, 0, 0, 0, 10, []), (145, .iaload, 146, 0, 0, 0, 0, []), (146, .ifCond .le 7, 149, 153, 0, 0, 0, []), (149, .iconst 1, 150, 0, 0, 0, 1, []), (150, .goto 4, 153, 154, 0, 0, 0, []), (153, .iconst 0, 154, 0, 0, 0, 0, []), (154, .ireturn, 155, 0, 0, 0, 0, []), (155, .aload_n 0, 156, 0, 0, 0, 0, []), (156, .getfield 7, 159, 7, 0, 0, 0, [(0, 0)]), (159, .iconst 0, 160, 0, 0, 0, 0, []), (160, .iaload, 161, 0, 0, 0, 0, []), (161, .aload_n 0, 162, 0, 0, 0, 0, []), (162, .getfield 137, 165, 7, 10, 0, 0, []), (165, .iadd, 166, 0, 0, 0, 0, []), (166, .ldc 112, 168, 0, 0, 0, 50000, []), (168, .if_icmp .gt 7, 171, 175, 0, 0, 0, []), (171, .iconst 1, 172, 0, 0, 0, 1, []), (172, .goto 4, 175, 176, 0, 0, 0, []), (175, .iconst 0, 176, 0, 0, 0, 0, []), (176, .ireturn, 177, 0, 0, 0, 0, [])]
def tbX7_isPossible : Nat → pm_E := pm_lk ltX7_isPossible
theorem okX7_isPossible : ∀ pc, (tbX7_isPossible pc).1 = .nop ∨ pm_ok mX7_isPossible pw_Ms pc (tbX7_isPossible pc) := pm_lk_ok (by decide +kernel)
theorem nr_X7_isPossible : mX7_isPossible.2.2.2 = (some .boolean) := rfl
theorem tX7_isPossible_0 : tbX7_isPossible 0 = (.iload_n 1, 1, 0, 0, 0, 0, []) := rfl
theorem tX7_isPossible_1 : tbX7_isPossible 1 = (.lookupswitch 154 #[(100, 138), (101, 51), (108, 74), (109, 87), (120, 114)], 52, 155, 0, 0, 0, [(100, 139), (101, 52), (108, 75), (109, 88), (120, 115)]) := rfl
theorem tX7_isPossible_52 : tbX7_isPossible 52 = (.aload_n 0, 53, 0, 0, 0, 0, []) := rfl
theorem tX7_isPossible_53 : tbX7_isPossible 53 = (.getfield 7, 56, 7, 0, 0, 0, [(0, 0)]) := rfl
theorem tX7_isPossible_56 : tbX7_isPossible 56 = (.aload_n 0, 57, 0, 0, 0, 0, []) := rfl
theorem tX7_isPossible_57 : tbX7_isPossible 57 = (.getfield 137, 60, 7, 10, 0, 0, []) := rfl
theorem tX7_isPossible_60 : tbX7_isPossible 60 = (.invokestatic 57, 63, 99, 1, 0, 0, []) := rfl
theorem tX7_isPossible_63 : tbX7_isPossible 63 = (.iconst 2, 64, 0, 0, 0, 2, []) := rfl
theorem tX7_isPossible_64 : tbX7_isPossible 64 = (.iadd, 65, 0, 0, 0, 0, []) := rfl
theorem tX7_isPossible_65 : tbX7_isPossible 65 = (.iaload, 66, 0, 0, 0, 0, []) := rfl
theorem tX7_isPossible_66 : tbX7_isPossible 66 = (.ifCond .ne 7, 69, 73, 0, 0, 0, []) := rfl
theorem tX7_isPossible_69 : tbX7_isPossible 69 = (.iconst 1, 70, 0, 0, 0, 1, []) := rfl
theorem tX7_isPossible_70 : tbX7_isPossible 70 = (.goto 4, 73, 74, 0, 0, 0, []) := rfl
theorem tX7_isPossible_73 : tbX7_isPossible 73 = (.iconst 0, 74, 0, 0, 0, 0, []) := rfl
theorem tX7_isPossible_74 : tbX7_isPossible 74 = (.ireturn, 75, 0, 0, 0, 0, []) := rfl
theorem tX7_isPossible_75 : tbX7_isPossible 75 = (.aload_n 0, 76, 0, 0, 0, 0, []) := rfl
theorem tX7_isPossible_76 : tbX7_isPossible 76 = (.aload_n 0, 77, 0, 0, 0, 0, []) := rfl
theorem tX7_isPossible_77 : tbX7_isPossible 77 = (.getfield 137, 80, 7, 10, 0, 0, []) := rfl
theorem tX7_isPossible_80 : tbX7_isPossible 80 = (.aload_n 0, 81, 0, 0, 0, 0, []) := rfl
theorem tX7_isPossible_81 : tbX7_isPossible 81 = (.getfield 140, 84, 7, 11, 0, 0, []) := rfl
theorem tX7_isPossible_84 : tbX7_isPossible 84 = (.invokevirtual 99, 87, 127, 2, 7, 0, []) := rfl
theorem tX7_isPossible_87 : tbX7_isPossible 87 = (.ireturn, 88, 0, 0, 0, 0, []) := rfl
theorem tX7_isPossible_88 : tbX7_isPossible 88 = (.aload_n 0, 89, 0, 0, 0, 0, []) := rfl
theorem tX7_isPossible_89 : tbX7_isPossible 89 = (.getfield 7, 92, 7, 0, 0, 0, [(0, 0)]) := rfl
theorem tX7_isPossible_92 : tbX7_isPossible 92 = (.aload_n 0, 93, 0, 0, 0, 0, []) := rfl
theorem tX7_isPossible_93 : tbX7_isPossible 93 = (.getfield 137, 96, 7, 10, 0, 0, []) := rfl
theorem tX7_isPossible_96 : tbX7_isPossible 96 = (.invokestatic 57, 99, 99, 1, 0, 0, []) := rfl
theorem tX7_isPossible_99 : tbX7_isPossible 99 = (.iconst 5, 100, 0, 0, 0, 5, []) := rfl
theorem tX7_isPossible_100 : tbX7_isPossible 100 = (.iadd, 101, 0, 0, 0, 0, []) := rfl
theorem tX7_isPossible_101 : tbX7_isPossible 101 = (.iaload, 102, 0, 0, 0, 0, []) := rfl
theorem tX7_isPossible_102 : tbX7_isPossible 102 = (.aload_n 0, 103, 0, 0, 0, 0, []) := rfl
theorem tX7_isPossible_103 : tbX7_isPossible 103 = (.getfield 140, 106, 7, 11, 0, 0, []) := rfl
theorem tX7_isPossible_106 : tbX7_isPossible 106 = (.if_icmp .eq 7, 109, 113, 0, 0, 0, []) := rfl
theorem tX7_isPossible_109 : tbX7_isPossible 109 = (.iconst 1, 110, 0, 0, 0, 1, []) := rfl
theorem tX7_isPossible_110 : tbX7_isPossible 110 = (.goto 4, 113, 114, 0, 0, 0, []) := rfl
theorem tX7_isPossible_113 : tbX7_isPossible 113 = (.iconst 0, 114, 0, 0, 0, 0, []) := rfl
theorem tX7_isPossible_114 : tbX7_isPossible 114 = (.ireturn, 115, 0, 0, 0, 0, []) := rfl
theorem tX7_isPossible_115 : tbX7_isPossible 115 = (.aload_n 0, 116, 0, 0, 0, 0, []) := rfl
theorem tX7_isPossible_116 : tbX7_isPossible 116 = (.getfield 7, 119, 7, 0, 0, 0, [(0, 0)]) := rfl
theorem tX7_isPossible_119 : tbX7_isPossible 119 = (.bipush 10, 121, 0, 0, 0, 10, []) := rfl
theorem tX7_isPossible_121 : tbX7_isPossible 121 = (.iaload, 122, 0, 0, 0, 0, []) := rfl
theorem tX7_isPossible_122 : tbX7_isPossible 122 = (.iconst 4, 123, 0, 0, 0, 4, []) := rfl
theorem tX7_isPossible_123 : tbX7_isPossible 123 = (.if_icmp .ge 14, 126, 137, 0, 0, 0, []) := rfl
theorem tX7_isPossible_126 : tbX7_isPossible 126 = (.aload_n 0, 127, 0, 0, 0, 0, []) := rfl
theorem tX7_isPossible_127 : tbX7_isPossible 127 = (.invokevirtual 102, 130, 116, 0, 7, 0, []) := rfl
theorem tX7_isPossible_130 : tbX7_isPossible 130 = (.ifCond .lt 7, 133, 137, 0, 0, 0, []) := rfl
theorem tX7_isPossible_133 : tbX7_isPossible 133 = (.iconst 1, 134, 0, 0, 0, 1, []) := rfl
theorem tX7_isPossible_134 : tbX7_isPossible 134 = (.goto 4, 137, 138, 0, 0, 0, []) := rfl
theorem tX7_isPossible_137 : tbX7_isPossible 137 = (.iconst 0, 138, 0, 0, 0, 0, []) := rfl
theorem tX7_isPossible_138 : tbX7_isPossible 138 = (.ireturn, 139, 0, 0, 0, 0, []) := rfl
theorem tX7_isPossible_139 : tbX7_isPossible 139 = (.aload_n 0, 140, 0, 0, 0, 0, []) := rfl
theorem tX7_isPossible_140 : tbX7_isPossible 140 = (.getfield 7, 143, 7, 0, 0, 0, [(0, 0)]) := rfl
theorem tX7_isPossible_143 : tbX7_isPossible 143 = (.bipush 10, 145, 0, 0, 0, 10, []) := rfl
theorem tX7_isPossible_145 : tbX7_isPossible 145 = (.iaload, 146, 0, 0, 0, 0, []) := rfl
theorem tX7_isPossible_146 : tbX7_isPossible 146 = (.ifCond .le 7, 149, 153, 0, 0, 0, []) := rfl
theorem tX7_isPossible_149 : tbX7_isPossible 149 = (.iconst 1, 150, 0, 0, 0, 1, []) := rfl
theorem tX7_isPossible_150 : tbX7_isPossible 150 = (.goto 4, 153, 154, 0, 0, 0, []) := rfl
theorem tX7_isPossible_153 : tbX7_isPossible 153 = (.iconst 0, 154, 0, 0, 0, 0, []) := rfl
theorem tX7_isPossible_154 : tbX7_isPossible 154 = (.ireturn, 155, 0, 0, 0, 0, []) := rfl
theorem tX7_isPossible_155 : tbX7_isPossible 155 = (.aload_n 0, 156, 0, 0, 0, 0, []) := rfl
theorem tX7_isPossible_156 : tbX7_isPossible 156 = (.getfield 7, 159, 7, 0, 0, 0, [(0, 0)]) := rfl
theorem tX7_isPossible_159 : tbX7_isPossible 159 = (.iconst 0, 160, 0, 0, 0, 0, []) := rfl
theorem tX7_isPossible_160 : tbX7_isPossible 160 = (.iaload, 161, 0, 0, 0, 0, []) := rfl
theorem tX7_isPossible_161 : tbX7_isPossible 161 = (.aload_n 0, 162, 0, 0, 0, 0, []) := rfl
theorem tX7_isPossible_162 : tbX7_isPossible 162 = (.getfield 137, 165, 7, 10, 0, 0, []) := rfl
theorem tX7_isPossible_165 : tbX7_isPossible 165 = (.iadd, 166, 0, 0, 0, 0, []) := rfl
theorem tX7_isPossible_166 : tbX7_isPossible 166 = (.ldc 112, 168, 0, 0, 0, 50000, []) := rfl
theorem tX7_isPossible_168 : tbX7_isPossible 168 = (.if_icmp .gt 7, 171, 175, 0, 0, 0, []) := rfl
theorem tX7_isPossible_171 : tbX7_isPossible 171 = (.iconst 1, 172, 0, 0, 0, 1, []) := rfl
theorem tX7_isPossible_172 : tbX7_isPossible 172 = (.goto 4, 175, 176, 0, 0, 0, []) := rfl
theorem tX7_isPossible_175 : tbX7_isPossible 175 = (.iconst 0, 176, 0, 0, 0, 0, []) := rfl
theorem tX7_isPossible_176 : tbX7_isPossible 176 = (.ireturn, 177, 0, 0, 0, 0, []) := rfl
def ltX7_goEvent : List (Nat × pm_E) := [(0, .iload_n 1, 1, 0, 0, 0, 0, []), (1, .lookupswitch 124 #[(100, 116), (101, 51), (108, 63), (109, 84), (120, 105)], 52, 125, 0, 0, 0, [(100, 117), (101, 52), (108, 64), (109, 85), (120, 106)]), (52, .aload_n 0, 53, 0, 0, 0, 0, []), (53, .aload_n 0, 54, 0, 0, 0, 0, []), (54, .getfield 137, 57, 7, 10, 0, 0, []), (57, .invokevirtual 96, 60, 125, 1, 7, 0, []), (60, .pop, 61, 0, 0, 0, 0, []), (61, .goto 73, 64, 134, 0, 0, 0, []), (64, .aload_n 0, 65, 0, 0, 0, 0, []), (65, .getfield 7, 68, 7, 0, 0, 0, [(0, 0)]), (68, .aload_n 0, 69, 0, 0, 0, 0, []), (69, .getfield 137, 72, 7, 10, 0, 0, []), (72, .invokestatic 57, 75, 99, 1, 0, 0, []), (75, .iconst 3, 76, 0, 0, 0, 3, []), (76, .iadd, 77, 0, 0, 0, 0, []), (77, .aload_n 0, 78, 0, 0, 0, 0, []), (78, .getfield 140, 81, 7, 11, 0, 0, []), (81, .iastore, 82, 0, 0, 0, 0, []), (82, .goto 52, 85, 134, 0, 0, 0, []), (85, .aload_n 0, 86, 0, 0, 0, 0, []), (86, .getfield 7, 89, 7, 0, 0, 0, [(0, 0)]), (89, .aload_n 0, 90, 0, 0, 0, 0, []), (90, .getfield 137, 93, 7, 10, 0, 0, []), (93, .invokestatic 57, 96, 99, 1, 0, 0, []), (96, .iconst 5, 97, 0, 0, 0, 5, []), (97, .iadd, 98, 0, 0, 0, 0, []), (98, .aload_n 0, 99, 0, 0, 0, 0, []), (99, .getfield 140, 102, 7, 11, 0, 0, []), (102, .iastore, 103, 0, 0, 0, 0, []), (103, .goto 31, 106, 134, 0, 0, 0, []), (106, .aload_n 0, 107, 0, 0, 0, 0, []), (107, .aload_n 0, 108, 0, 0, 0, 0, []), (108, .invokevirtual 102, 111, 116, 0, 7, 0, []), (111, .invokevirtual 106, 114, 119, 1, 7, 0, []), (114, .goto 20, 117, 134, 0, 0, 0, []), (117, .aload_n 0, 118, 0, 0, 0, 0, []), (118, .invokevirtual 109, 121, 120, 0, 7, 0, []), (121, .pop, 122, 0, 0, 0, 0, []), (122, .goto 12, 125, 134, 0, 0, 0, []), (125, .aload_n 0, 126, 0, 0, 0, 0, []), (126, .aload_n 0, 127, 0, 0, 0, 0, []), (127, .getfield 137, 130, 7, 10, 0, 0, []), (130, .invokevirtual 113, 133, 131, 1, 7, 0, []), (133, .pop, 134, 0, 0, 0, 0, []), (134, .return_, 135, 0, 0, 0, 0, [])]
def tbX7_goEvent : Nat → pm_E := pm_lk ltX7_goEvent
theorem okX7_goEvent : ∀ pc, (tbX7_goEvent pc).1 = .nop ∨ pm_ok mX7_goEvent pw_Ms pc (tbX7_goEvent pc) := pm_lk_ok (by decide +kernel)
theorem nr_X7_goEvent : mX7_goEvent.2.2.2 = none := rfl
theorem tX7_goEvent_0 : tbX7_goEvent 0 = (.iload_n 1, 1, 0, 0, 0, 0, []) := rfl
theorem tX7_goEvent_1 : tbX7_goEvent 1 = (.lookupswitch 124 #[(100, 116), (101, 51), (108, 63), (109, 84), (120, 105)], 52, 125, 0, 0, 0, [(100, 117), (101, 52), (108, 64), (109, 85), (120, 106)]) := rfl
theorem tX7_goEvent_52 : tbX7_goEvent 52 = (.aload_n 0, 53, 0, 0, 0, 0, []) := rfl
theorem tX7_goEvent_53 : tbX7_goEvent 53 = (.aload_n 0, 54, 0, 0, 0, 0, []) := rfl
theorem tX7_goEvent_54 : tbX7_goEvent 54 = (.getfield 137, 57, 7, 10, 0, 0, []) := rfl
theorem tX7_goEvent_57 : tbX7_goEvent 57 = (.invokevirtual 96, 60, 125, 1, 7, 0, []) := rfl
theorem tX7_goEvent_60 : tbX7_goEvent 60 = (.pop, 61, 0, 0, 0, 0, []) := rfl
theorem tX7_goEvent_61 : tbX7_goEvent 61 = (.goto 73, 64, 134, 0, 0, 0, []) := rfl
theorem tX7_goEvent_64 : tbX7_goEvent 64 = (.aload_n 0, 65, 0, 0, 0, 0, []) := rfl
theorem tX7_goEvent_65 : tbX7_goEvent 65 = (.getfield 7, 68, 7, 0, 0, 0, [(0, 0)]) := rfl
theorem tX7_goEvent_68 : tbX7_goEvent 68 = (.aload_n 0, 69, 0, 0, 0, 0, []) := rfl
theorem tX7_goEvent_69 : tbX7_goEvent 69 = (.getfield 137, 72, 7, 10, 0, 0, []) := rfl
theorem tX7_goEvent_72 : tbX7_goEvent 72 = (.invokestatic 57, 75, 99, 1, 0, 0, []) := rfl
theorem tX7_goEvent_75 : tbX7_goEvent 75 = (.iconst 3, 76, 0, 0, 0, 3, []) := rfl
theorem tX7_goEvent_76 : tbX7_goEvent 76 = (.iadd, 77, 0, 0, 0, 0, []) := rfl
theorem tX7_goEvent_77 : tbX7_goEvent 77 = (.aload_n 0, 78, 0, 0, 0, 0, []) := rfl
theorem tX7_goEvent_78 : tbX7_goEvent 78 = (.getfield 140, 81, 7, 11, 0, 0, []) := rfl
theorem tX7_goEvent_81 : tbX7_goEvent 81 = (.iastore, 82, 0, 0, 0, 0, []) := rfl
theorem tX7_goEvent_82 : tbX7_goEvent 82 = (.goto 52, 85, 134, 0, 0, 0, []) := rfl
theorem tX7_goEvent_85 : tbX7_goEvent 85 = (.aload_n 0, 86, 0, 0, 0, 0, []) := rfl
theorem tX7_goEvent_86 : tbX7_goEvent 86 = (.getfield 7, 89, 7, 0, 0, 0, [(0, 0)]) := rfl
theorem tX7_goEvent_89 : tbX7_goEvent 89 = (.aload_n 0, 90, 0, 0, 0, 0, []) := rfl
theorem tX7_goEvent_90 : tbX7_goEvent 90 = (.getfield 137, 93, 7, 10, 0, 0, []) := rfl
theorem tX7_goEvent_93 : tbX7_goEvent 93 = (.invokestatic 57, 96, 99, 1, 0, 0, []) := rfl
theorem tX7_goEvent_96 : tbX7_goEvent 96 = (.iconst 5, 97, 0, 0, 0, 5, []) := rfl
theorem tX7_goEvent_97 : tbX7_goEvent 97 = (.iadd, 98, 0, 0, 0, 0, []) := rfl
theorem tX7_goEvent_98 : tbX7_goEvent 98 = (.aload_n 0, 99, 0, 0, 0, 0, []) := rfl
theorem tX7_goEvent_99 : tbX7_goEvent 99 = (.getfield 140, 102, 7, 11, 0, 0, []) := rfl
theorem tX7_goEvent_102 : tbX7_goEvent 102 = (.iastore, 103, 0, 0, 0, 0, []) := rfl
theorem tX7_goEvent_103 : tbX7_goEvent 103 = (.goto 31, 106, 134, 0, 0, 0, []) := rfl
theorem tX7_goEvent_106 : tbX7_goEvent 106 = (.aload_n 0, 107, 0, 0, 0, 0, []) := rfl
theorem tX7_goEvent_107 : tbX7_goEvent 107 = (.aload_n 0, 108, 0, 0, 0, 0, []) := rfl
theorem tX7_goEvent_108 : tbX7_goEvent 108 = (.invokevirtual 102, 111, 116, 0, 7, 0, []) := rfl
theorem tX7_goEvent_111 : tbX7_goEvent 111 = (.invokevirtual 106, 114, 119, 1, 7, 0, []) := rfl
theorem tX7_goEvent_114 : tbX7_goEvent 114 = (.goto 20, 117, 134, 0, 0, 0, []) := rfl
theorem tX7_goEvent_117 : tbX7_goEvent 117 = (.aload_n 0, 118, 0, 0, 0, 0, []) := rfl
theorem tX7_goEvent_118 : tbX7_goEvent 118 = (.invokevirtual 109, 121, 120, 0, 7, 0, []) := rfl
theorem tX7_goEvent_121 : tbX7_goEvent 121 = (.pop, 122, 0, 0, 0, 0, []) := rfl
theorem tX7_goEvent_122 : tbX7_goEvent 122 = (.goto 12, 125, 134, 0, 0, 0, []) := rfl
theorem tX7_goEvent_125 : tbX7_goEvent 125 = (.aload_n 0, 126, 0, 0, 0, 0, []) := rfl
theorem tX7_goEvent_126 : tbX7_goEvent 126 = (.aload_n 0, 127, 0, 0, 0, 0, []) := rfl
theorem tX7_goEvent_127 : tbX7_goEvent 127 = (.getfield 137, 130, 7, 10, 0, 0, []) := rfl
theorem tX7_goEvent_130 : tbX7_goEvent 130 = (.invokevirtual 113, 133, 131, 1, 7, 0, []) := rfl
theorem tX7_goEvent_133 : tbX7_goEvent 133 = (.pop, 134, 0, 0, 0, 0, []) := rfl
theorem tX7_goEvent_134 : tbX7_goEvent 134 = (.return_, 135, 0, 0, 0, 0, []) := rfl
def ltX7_isSign : List (Nat × pm_E) := [(0, .iload_n 0, 1, 0, 0, 0, 0, []), (1, .bipush 101, 3, 0, 0, 0, 101, []), (3, .if_icmp .eq 33, 6, 36, 0, 0, 0, []), (6, .iload_n 0, 7, 0, 0, 0, 0, []), (7, .bipush 108, 9, 0, 0, 0, 108, []), (9, .if_icmp .eq 27, 12, 36, 0, 0, 0, []), (12, .iload_n 0, 13, 0, 0, 0, 0, []), (13, .bipush 109, 15, 0, 0, 0, 109, []), (15, .if_icmp .eq 21, 18, 36, 0, 0, 0, []), (18, .iload_n 0, 19, 0, 0, 0, 0, []), (19, .bipush 120, 21, 0, 0, 0, 120, []), (21, .if_icmp .eq 15, 24, 36, 0, 0, 0, []), (24, .iload_n 0, 25, 0, 0, 0, 0, []), (25, .bipush 100, 27, 0, 0, 0, 100, []), (27, .if_icmp .eq 9, 30, 36, 0, 0, 0, []), (30, .iload_n 0, 31, 0, 0, 0, 0, []), (31, .bipush 116, 33, 0, 0, 0, 116, []), (33, .if_icmp .ne 7, 36, 40, 0, 0, 0, []), (36, .iconst 1, 37, 0, 0, 0, 1, []), (37, .goto 4, 40, 41, 0, 0, 0, []), (40, .iconst 0, 41, 0, 0, 0, 0, []), (41, .ireturn, 42, 0, 0, 0, 0, [])]
def tbX7_isSign : Nat → pm_E := pm_lk ltX7_isSign
theorem okX7_isSign : ∀ pc, (tbX7_isSign pc).1 = .nop ∨ pm_ok mX7_isSign pw_Ms pc (tbX7_isSign pc) := pm_lk_ok (by decide +kernel)
theorem nr_X7_isSign : mX7_isSign.2.2.2 = (some .boolean) := rfl
theorem tX7_isSign_0 : tbX7_isSign 0 = (.iload_n 0, 1, 0, 0, 0, 0, []) := rfl
theorem tX7_isSign_1 : tbX7_isSign 1 = (.bipush 101, 3, 0, 0, 0, 101, []) := rfl
theorem tX7_isSign_3 : tbX7_isSign 3 = (.if_icmp .eq 33, 6, 36, 0, 0, 0, []) := rfl
theorem tX7_isSign_6 : tbX7_isSign 6 = (.iload_n 0, 7, 0, 0, 0, 0, []) := rfl
theorem tX7_isSign_7 : tbX7_isSign 7 = (.bipush 108, 9, 0, 0, 0, 108, []) := rfl
theorem tX7_isSign_9 : tbX7_isSign 9 = (.if_icmp .eq 27, 12, 36, 0, 0, 0, []) := rfl
theorem tX7_isSign_12 : tbX7_isSign 12 = (.iload_n 0, 13, 0, 0, 0, 0, []) := rfl
theorem tX7_isSign_13 : tbX7_isSign 13 = (.bipush 109, 15, 0, 0, 0, 109, []) := rfl
theorem tX7_isSign_15 : tbX7_isSign 15 = (.if_icmp .eq 21, 18, 36, 0, 0, 0, []) := rfl
theorem tX7_isSign_18 : tbX7_isSign 18 = (.iload_n 0, 19, 0, 0, 0, 0, []) := rfl
theorem tX7_isSign_19 : tbX7_isSign 19 = (.bipush 120, 21, 0, 0, 0, 120, []) := rfl
theorem tX7_isSign_21 : tbX7_isSign 21 = (.if_icmp .eq 15, 24, 36, 0, 0, 0, []) := rfl
theorem tX7_isSign_24 : tbX7_isSign 24 = (.iload_n 0, 25, 0, 0, 0, 0, []) := rfl
theorem tX7_isSign_25 : tbX7_isSign 25 = (.bipush 100, 27, 0, 0, 0, 100, []) := rfl
theorem tX7_isSign_27 : tbX7_isSign 27 = (.if_icmp .eq 9, 30, 36, 0, 0, 0, []) := rfl
theorem tX7_isSign_30 : tbX7_isSign 30 = (.iload_n 0, 31, 0, 0, 0, 0, []) := rfl
theorem tX7_isSign_31 : tbX7_isSign 31 = (.bipush 116, 33, 0, 0, 0, 116, []) := rfl
theorem tX7_isSign_33 : tbX7_isSign 33 = (.if_icmp .ne 7, 36, 40, 0, 0, 0, []) := rfl
theorem tX7_isSign_36 : tbX7_isSign 36 = (.iconst 1, 37, 0, 0, 0, 1, []) := rfl
theorem tX7_isSign_37 : tbX7_isSign 37 = (.goto 4, 40, 41, 0, 0, 0, []) := rfl
theorem tX7_isSign_40 : tbX7_isSign 40 = (.iconst 0, 41, 0, 0, 0, 0, []) := rfl
theorem tX7_isSign_41 : tbX7_isSign 41 = (.ireturn, 42, 0, 0, 0, 0, []) := rfl
def ltX7_run : List (Nat × pm_E) := [(0, .aload_n 0, 1, 0, 0, 0, 0, []), (1, .iconst 0, 2, 0, 0, 0, 0, []), (2, .putfield 134, 5, 7, 9, 0, 0, []), (5, .aload_n 0, 6, 0, 0, 0, 0, []), (6, .iconst 0, 7, 0, 0, 0, 0, []), (7, .putfield 149, 10, 7, 12, 0, 0, []), (10, .aload_n 0, 11, 0, 0, 0, 0, []), (11, .getfield 134, 14, 7, 9, 0, 0, []), (14, .aload_n 0, 15, 0, 0, 0, 0, []), (15, .getfield 131, 18, 7, 7, 0, 0, []), (18, .if_icmp .ge 95, 21, 113, 0, 0, 0, []), (21, .aload_n 0, 22, 0, 0, 0, 0, []), (22, .getfield 134, 25, 7, 9, 0, 0, []), (25, .istore_n 1, 26, 0, 0, 0, 0, []), (26, .aload_n 0, 27, 0, 0, 0, 0, []), (27, .getfield 28, 30, 7, 6, 0, 0, [(0, 0)]), (30, .aload_n 0, 31, 0, 0, 0, 0, []), (31, .getfield 134, 34, 7, 9, 0, 0, []), (34, .iaload, 35, 0, 0, 0, 0, []), (35, .istore_n 2, 36, 0, 0, 0, 0, []), (36, .aload_n 0, 37, 0, 0, 0, 0, []), (37, .dup, 38, 0, 0, 0, 0, []), (38, .getfield 134, 41, 7, 9, 0, 0, []), (41, .iconst 1, 42, 0, 0, 0, 1, []), (42, .iadd, 43, 0, 0, 0, 0, []), (43, .putfield 134, 46, 7, 9, 0, 0, []), (46, .iload_n 2, 47, 0, 0, 0, 0, []), (47, .invokestatic 152, 50, 152, 1, 0, 0, []), (50, .ifCond .eq 11, 53, 61, 0, 0, 0, []), (53, .aload_n 0, 54, 0, 0, 0, 0, []), (54, .iload_n 2, 55, 0, 0, 0, 0, []), (55, .invokevirtual 155, 58, 148, 1, 7, 0, []), (58, .ifCond .ne 9, 61, 67, 0, 0, 0, []), (61, .iconst 4, 62, 0, 0, 0, 4, []), (62, .iload_n 1, 63, 0, 0, 0, 0, []), (63, .imul, 64, 0, 0, 0, 0, []), (64, .iconst 1, 65, 0, 0, 0, 1, []), (65, .iadd, 66, 0, 0, 0, 0, []), (66, .ireturn, 67, 0, 0, 0, 0, []), (67, .aload_n 0, 68, 0, 0, 0, 0, []), (68, .iload_n 2, 69, 0, 0, 0, 0, []), (69, .invokevirtual 158, 72, 149, 1, 7, 0, []), (72, .ifCond .ne 9, 75, 81, 0, 0, 0, []), (75, .iconst 4, 76, 0, 0, 0, 4, []), (76, .iload_n 1, 77, 0, 0, 0, 0, []), (77, .imul, 78, 0, 0, 0, 0, []), (78, .iconst 2, 79, 0, 0, 0, 2, []), (79, .iadd, 80, 0, 0, 0, 0, []), (80, .ireturn, 81, 0, 0, 0, 0, []), (81, .aload_n 0, 82, 0, 0, 0, 0, []), (82, .iload_n 2, 83, 0, 0, 0, 0, []), (83, .invokevirtual 161, 86, 150, 1, 7, 0, []), (86, .ifCond .ne 9, 89, 95, 0, 0, 0, []), (89, .iconst 4, 90, 0, 0, 0, 4, []), (90, .iload_n 1, 91, 0, 0, 0, 0, []), (91, .imul, 92, 0, 0, 0, 0, []), (92, .iconst 3, 93, 0, 0, 0, 3, []), (93, .iadd, 94, 0, 0, 0, 0, []), (94, .ireturn, 95, 0, 0, 0, 0, []), (95, .aload_n 0, 96, 0, 0, 0, 0, []), (96, .iload_n 2, 97, 0, 0, 0, 0, []), (97, .invokevirtual 164, 100, 151, 1, 7, 0, []), (100, .aload_n 0, 101, 0, 0, 0, 0, []), (101, .dup, 102, 0, 0, 0, 0, []), (102, .getfield 149, 105, 7, 12, 0, 0, []), (105, .iconst 1, 106, 0, 0, 0, 1, []), (106, .iadd, 107, 0, 0, 0, 0, []), (107, .putfield 149, 110, 7, 12, 0, 0, []), (110, .goto (-100), 113, 10, 0, 0, 0, []), (113, .iconst (-1), 114, 0, 0, 0, -1, []), (114, .ireturn, 115, 0, 0, 0, 0, [])]
def tbX7_run : Nat → pm_E := pm_lk ltX7_run
theorem okX7_run : ∀ pc, (tbX7_run pc).1 = .nop ∨ pm_ok mX7_run pw_Ms pc (tbX7_run pc) := pm_lk_ok (by decide +kernel)
theorem nr_X7_run : mX7_run.2.2.2 = (some .int) := rfl
theorem tX7_run_0 : tbX7_run 0 = (.aload_n 0, 1, 0, 0, 0, 0, []) := rfl
theorem tX7_run_1 : tbX7_run 1 = (.iconst 0, 2, 0, 0, 0, 0, []) := rfl
theorem tX7_run_2 : tbX7_run 2 = (.putfield 134, 5, 7, 9, 0, 0, []) := rfl
theorem tX7_run_5 : tbX7_run 5 = (.aload_n 0, 6, 0, 0, 0, 0, []) := rfl
theorem tX7_run_6 : tbX7_run 6 = (.iconst 0, 7, 0, 0, 0, 0, []) := rfl
theorem tX7_run_7 : tbX7_run 7 = (.putfield 149, 10, 7, 12, 0, 0, []) := rfl
theorem tX7_run_10 : tbX7_run 10 = (.aload_n 0, 11, 0, 0, 0, 0, []) := rfl
theorem tX7_run_11 : tbX7_run 11 = (.getfield 134, 14, 7, 9, 0, 0, []) := rfl
theorem tX7_run_14 : tbX7_run 14 = (.aload_n 0, 15, 0, 0, 0, 0, []) := rfl
theorem tX7_run_15 : tbX7_run 15 = (.getfield 131, 18, 7, 7, 0, 0, []) := rfl
theorem tX7_run_18 : tbX7_run 18 = (.if_icmp .ge 95, 21, 113, 0, 0, 0, []) := rfl
theorem tX7_run_21 : tbX7_run 21 = (.aload_n 0, 22, 0, 0, 0, 0, []) := rfl
theorem tX7_run_22 : tbX7_run 22 = (.getfield 134, 25, 7, 9, 0, 0, []) := rfl
theorem tX7_run_25 : tbX7_run 25 = (.istore_n 1, 26, 0, 0, 0, 0, []) := rfl
theorem tX7_run_26 : tbX7_run 26 = (.aload_n 0, 27, 0, 0, 0, 0, []) := rfl
theorem tX7_run_27 : tbX7_run 27 = (.getfield 28, 30, 7, 6, 0, 0, [(0, 0)]) := rfl
theorem tX7_run_30 : tbX7_run 30 = (.aload_n 0, 31, 0, 0, 0, 0, []) := rfl
theorem tX7_run_31 : tbX7_run 31 = (.getfield 134, 34, 7, 9, 0, 0, []) := rfl
theorem tX7_run_34 : tbX7_run 34 = (.iaload, 35, 0, 0, 0, 0, []) := rfl
theorem tX7_run_35 : tbX7_run 35 = (.istore_n 2, 36, 0, 0, 0, 0, []) := rfl
theorem tX7_run_36 : tbX7_run 36 = (.aload_n 0, 37, 0, 0, 0, 0, []) := rfl
theorem tX7_run_37 : tbX7_run 37 = (.dup, 38, 0, 0, 0, 0, []) := rfl
theorem tX7_run_38 : tbX7_run 38 = (.getfield 134, 41, 7, 9, 0, 0, []) := rfl
theorem tX7_run_41 : tbX7_run 41 = (.iconst 1, 42, 0, 0, 0, 1, []) := rfl
theorem tX7_run_42 : tbX7_run 42 = (.iadd, 43, 0, 0, 0, 0, []) := rfl
theorem tX7_run_43 : tbX7_run 43 = (.putfield 134, 46, 7, 9, 0, 0, []) := rfl
theorem tX7_run_46 : tbX7_run 46 = (.iload_n 2, 47, 0, 0, 0, 0, []) := rfl
theorem tX7_run_47 : tbX7_run 47 = (.invokestatic 152, 50, 152, 1, 0, 0, []) := rfl
theorem tX7_run_50 : tbX7_run 50 = (.ifCond .eq 11, 53, 61, 0, 0, 0, []) := rfl
theorem tX7_run_53 : tbX7_run 53 = (.aload_n 0, 54, 0, 0, 0, 0, []) := rfl
theorem tX7_run_54 : tbX7_run 54 = (.iload_n 2, 55, 0, 0, 0, 0, []) := rfl
theorem tX7_run_55 : tbX7_run 55 = (.invokevirtual 155, 58, 148, 1, 7, 0, []) := rfl
theorem tX7_run_58 : tbX7_run 58 = (.ifCond .ne 9, 61, 67, 0, 0, 0, []) := rfl
theorem tX7_run_61 : tbX7_run 61 = (.iconst 4, 62, 0, 0, 0, 4, []) := rfl
theorem tX7_run_62 : tbX7_run 62 = (.iload_n 1, 63, 0, 0, 0, 0, []) := rfl
theorem tX7_run_63 : tbX7_run 63 = (.imul, 64, 0, 0, 0, 0, []) := rfl
theorem tX7_run_64 : tbX7_run 64 = (.iconst 1, 65, 0, 0, 0, 1, []) := rfl
theorem tX7_run_65 : tbX7_run 65 = (.iadd, 66, 0, 0, 0, 0, []) := rfl
theorem tX7_run_66 : tbX7_run 66 = (.ireturn, 67, 0, 0, 0, 0, []) := rfl
theorem tX7_run_67 : tbX7_run 67 = (.aload_n 0, 68, 0, 0, 0, 0, []) := rfl
theorem tX7_run_68 : tbX7_run 68 = (.iload_n 2, 69, 0, 0, 0, 0, []) := rfl
theorem tX7_run_69 : tbX7_run 69 = (.invokevirtual 158, 72, 149, 1, 7, 0, []) := rfl
theorem tX7_run_72 : tbX7_run 72 = (.ifCond .ne 9, 75, 81, 0, 0, 0, []) := rfl
theorem tX7_run_75 : tbX7_run 75 = (.iconst 4, 76, 0, 0, 0, 4, []) := rfl
theorem tX7_run_76 : tbX7_run 76 = (.iload_n 1, 77, 0, 0, 0, 0, []) := rfl
theorem tX7_run_77 : tbX7_run 77 = (.imul, 78, 0, 0, 0, 0, []) := rfl
theorem tX7_run_78 : tbX7_run 78 = (.iconst 2, 79, 0, 0, 0, 2, []) := rfl
theorem tX7_run_79 : tbX7_run 79 = (.iadd, 80, 0, 0, 0, 0, []) := rfl
theorem tX7_run_80 : tbX7_run 80 = (.ireturn, 81, 0, 0, 0, 0, []) := rfl
theorem tX7_run_81 : tbX7_run 81 = (.aload_n 0, 82, 0, 0, 0, 0, []) := rfl
theorem tX7_run_82 : tbX7_run 82 = (.iload_n 2, 83, 0, 0, 0, 0, []) := rfl
theorem tX7_run_83 : tbX7_run 83 = (.invokevirtual 161, 86, 150, 1, 7, 0, []) := rfl
theorem tX7_run_86 : tbX7_run 86 = (.ifCond .ne 9, 89, 95, 0, 0, 0, []) := rfl
theorem tX7_run_89 : tbX7_run 89 = (.iconst 4, 90, 0, 0, 0, 4, []) := rfl
theorem tX7_run_90 : tbX7_run 90 = (.iload_n 1, 91, 0, 0, 0, 0, []) := rfl
theorem tX7_run_91 : tbX7_run 91 = (.imul, 92, 0, 0, 0, 0, []) := rfl
theorem tX7_run_92 : tbX7_run 92 = (.iconst 3, 93, 0, 0, 0, 3, []) := rfl
theorem tX7_run_93 : tbX7_run 93 = (.iadd, 94, 0, 0, 0, 0, []) := rfl
theorem tX7_run_94 : tbX7_run 94 = (.ireturn, 95, 0, 0, 0, 0, []) := rfl
theorem tX7_run_95 : tbX7_run 95 = (.aload_n 0, 96, 0, 0, 0, 0, []) := rfl
theorem tX7_run_96 : tbX7_run 96 = (.iload_n 2, 97, 0, 0, 0, 0, []) := rfl
theorem tX7_run_97 : tbX7_run 97 = (.invokevirtual 164, 100, 151, 1, 7, 0, []) := rfl
theorem tX7_run_100 : tbX7_run 100 = (.aload_n 0, 101, 0, 0, 0, 0, []) := rfl
theorem tX7_run_101 : tbX7_run 101 = (.dup, 102, 0, 0, 0, 0, []) := rfl
theorem tX7_run_102 : tbX7_run 102 = (.getfield 149, 105, 7, 12, 0, 0, []) := rfl
theorem tX7_run_105 : tbX7_run 105 = (.iconst 1, 106, 0, 0, 0, 1, []) := rfl
theorem tX7_run_106 : tbX7_run 106 = (.iadd, 107, 0, 0, 0, 0, []) := rfl
theorem tX7_run_107 : tbX7_run 107 = (.putfield 149, 110, 7, 12, 0, 0, []) := rfl
theorem tX7_run_110 : tbX7_run 110 = (.goto (-100), 113, 10, 0, 0, 0, []) := rfl
theorem tX7_run_113 : tbX7_run 113 = (.iconst (-1), 114, 0, 0, 0, -1, []) := rfl
theorem tX7_run_114 : tbX7_run 114 = (.ireturn, 115, 0, 0, 0, 0, []) := rfl
def ltX7_fault : List (Nat × pm_E) := [(0, .iload_n 1, 1, 0, 0, 0, 0, []), (1, .iconst 0, 2, 0, 0, 0, 0, []), (2, .iconst 1, 3, 0, 0, 0, 1, []), (3, .invokestatic 35, 6, 94, 3, 0, 0, []), (6, .ifCond .ne 5, 9, 11, 0, 0, 0, []), (9, .iconst (-1), 10, 0, 0, 0, -1, []), (10, .ireturn, 11, 0, 0, 0, 0, []), (11, .aload_n 0, 12, 0, 0, 0, 0, []), (12, .invokevirtual 116, 15, 96, 0, 7, 0, []), (15, .aload_n 0, 16, 0, 0, 0, 0, []), (16, .invokevirtual 167, 19, 153, 0, 7, 0, []), (19, .istore_n 2, 20, 0, 0, 0, 0, []), (20, .aload_n 0, 21, 0, 0, 0, 0, []), (21, .invokevirtual 119, 24, 97, 0, 7, 0, []), (24, .iload_n 2, 25, 0, 0, 0, 0, []), (25, .ifCond .ge 8, 28, 33, 0, 0, 0, []), (28, .bipush (-4), 30, 0, 0, 0, -4, []), (30, .goto 16, 33, 46, 0, 0, 0, []), (33, .iload_n 1, 34, 0, 0, 0, 0, []), (34, .ifCond .ne 9, 37, 43, 0, 0, 0, []), (37, .iload_n 2, 38, 0, 0, 0, 0, []), (38, .iconst 4, 39, 0, 0, 0, 4, []), (39, .idiv, 40, 0, 0, 0, 0, []), (40, .goto 6, 43, 46, 0, 0, 0, []), (43, .iload_n 2, 44, 0, 0, 0, 0, []), (44, .iconst 4, 45, 0, 0, 0, 4, []), (45, .irem, 46, 0, 0, 0, 0, []), (46, .ireturn, 47, 0, 0, 0, 0, [])]
def tbX7_fault : Nat → pm_E := pm_lk ltX7_fault
theorem okX7_fault : ∀ pc, (tbX7_fault pc).1 = .nop ∨ pm_ok mX7_fault pw_Ms pc (tbX7_fault pc) := pm_lk_ok (by decide +kernel)
theorem nr_X7_fault : mX7_fault.2.2.2 = (some .int) := rfl
theorem tX7_fault_0 : tbX7_fault 0 = (.iload_n 1, 1, 0, 0, 0, 0, []) := rfl
theorem tX7_fault_1 : tbX7_fault 1 = (.iconst 0, 2, 0, 0, 0, 0, []) := rfl
theorem tX7_fault_2 : tbX7_fault 2 = (.iconst 1, 3, 0, 0, 0, 1, []) := rfl
theorem tX7_fault_3 : tbX7_fault 3 = (.invokestatic 35, 6, 94, 3, 0, 0, []) := rfl
theorem tX7_fault_6 : tbX7_fault 6 = (.ifCond .ne 5, 9, 11, 0, 0, 0, []) := rfl
theorem tX7_fault_9 : tbX7_fault 9 = (.iconst (-1), 10, 0, 0, 0, -1, []) := rfl
theorem tX7_fault_10 : tbX7_fault 10 = (.ireturn, 11, 0, 0, 0, 0, []) := rfl
theorem tX7_fault_11 : tbX7_fault 11 = (.aload_n 0, 12, 0, 0, 0, 0, []) := rfl
theorem tX7_fault_12 : tbX7_fault 12 = (.invokevirtual 116, 15, 96, 0, 7, 0, []) := rfl
theorem tX7_fault_15 : tbX7_fault 15 = (.aload_n 0, 16, 0, 0, 0, 0, []) := rfl
theorem tX7_fault_16 : tbX7_fault 16 = (.invokevirtual 167, 19, 153, 0, 7, 0, []) := rfl
theorem tX7_fault_19 : tbX7_fault 19 = (.istore_n 2, 20, 0, 0, 0, 0, []) := rfl
theorem tX7_fault_20 : tbX7_fault 20 = (.aload_n 0, 21, 0, 0, 0, 0, []) := rfl
theorem tX7_fault_21 : tbX7_fault 21 = (.invokevirtual 119, 24, 97, 0, 7, 0, []) := rfl
theorem tX7_fault_24 : tbX7_fault 24 = (.iload_n 2, 25, 0, 0, 0, 0, []) := rfl
theorem tX7_fault_25 : tbX7_fault 25 = (.ifCond .ge 8, 28, 33, 0, 0, 0, []) := rfl
theorem tX7_fault_28 : tbX7_fault 28 = (.bipush (-4), 30, 0, 0, 0, -4, []) := rfl
theorem tX7_fault_30 : tbX7_fault 30 = (.goto 16, 33, 46, 0, 0, 0, []) := rfl
theorem tX7_fault_33 : tbX7_fault 33 = (.iload_n 1, 34, 0, 0, 0, 0, []) := rfl
theorem tX7_fault_34 : tbX7_fault 34 = (.ifCond .ne 9, 37, 43, 0, 0, 0, []) := rfl
theorem tX7_fault_37 : tbX7_fault 37 = (.iload_n 2, 38, 0, 0, 0, 0, []) := rfl
theorem tX7_fault_38 : tbX7_fault 38 = (.iconst 4, 39, 0, 0, 0, 4, []) := rfl
theorem tX7_fault_39 : tbX7_fault 39 = (.idiv, 40, 0, 0, 0, 0, []) := rfl
theorem tX7_fault_40 : tbX7_fault 40 = (.goto 6, 43, 46, 0, 0, 0, []) := rfl
theorem tX7_fault_43 : tbX7_fault 43 = (.iload_n 2, 44, 0, 0, 0, 0, []) := rfl
theorem tX7_fault_44 : tbX7_fault 44 = (.iconst 4, 45, 0, 0, 0, 4, []) := rfl
theorem tX7_fault_45 : tbX7_fault 45 = (.irem, 46, 0, 0, 0, 0, []) := rfl
theorem tX7_fault_46 : tbX7_fault 46 = (.ireturn, 47, 0, 0, 0, 0, []) := rfl
def ltX7_play : List (Nat × pm_E) := [(0, .aload_n 0, 1, 0, 0, 0, 0, []), (1, .invokevirtual 116, 4, 96, 0, 7, 0, []), (4, .aload_n 0, 5, 0, 0, 0, 0, []), (5, .invokevirtual 167, 8, 153, 0, 7, 0, []), (8, .istore_n 1, 9, 0, 0, 0, 0, []), (9, .aload_n 0, 10, 0, 0, 0, 0, []), (10, .invokevirtual 119, 13, 97, 0, 7, 0, []), (13, .iload_n 1, 14, 0, 0, 0, 0, []), (14, .ifCond .lt 6, 17, 20, 0, 0, 0, []), (17, .bipush (-2), 19, 0, 0, 0, -2, []), (19, .ireturn, 20, 0, 0, 0, 0, []), (20, .aload_n 0, 21, 0, 0, 0, 0, []), (21, .invokevirtual 50, 24, 95, 0, 7, 0, []), (24, .aload_n 0, 25, 0, 0, 0, 0, []), (25, .invokevirtual 167, 28, 153, 0, 7, 0, []), (28, .pop, 29, 0, 0, 0, 0, []), (29, .aload_n 0, 30, 0, 0, 0, 0, []), (30, .getfield 149, 33, 7, 12, 0, 0, []), (33, .ireturn, 34, 0, 0, 0, 0, [])]
def tbX7_play : Nat → pm_E := pm_lk ltX7_play
theorem okX7_play : ∀ pc, (tbX7_play pc).1 = .nop ∨ pm_ok mX7_play pw_Ms pc (tbX7_play pc) := pm_lk_ok (by decide +kernel)
theorem nr_X7_play : mX7_play.2.2.2 = (some .int) := rfl
theorem tX7_play_0 : tbX7_play 0 = (.aload_n 0, 1, 0, 0, 0, 0, []) := rfl
theorem tX7_play_1 : tbX7_play 1 = (.invokevirtual 116, 4, 96, 0, 7, 0, []) := rfl
theorem tX7_play_4 : tbX7_play 4 = (.aload_n 0, 5, 0, 0, 0, 0, []) := rfl
theorem tX7_play_5 : tbX7_play 5 = (.invokevirtual 167, 8, 153, 0, 7, 0, []) := rfl
theorem tX7_play_8 : tbX7_play 8 = (.istore_n 1, 9, 0, 0, 0, 0, []) := rfl
theorem tX7_play_9 : tbX7_play 9 = (.aload_n 0, 10, 0, 0, 0, 0, []) := rfl
theorem tX7_play_10 : tbX7_play 10 = (.invokevirtual 119, 13, 97, 0, 7, 0, []) := rfl
theorem tX7_play_13 : tbX7_play 13 = (.iload_n 1, 14, 0, 0, 0, 0, []) := rfl
theorem tX7_play_14 : tbX7_play 14 = (.ifCond .lt 6, 17, 20, 0, 0, 0, []) := rfl
theorem tX7_play_17 : tbX7_play 17 = (.bipush (-2), 19, 0, 0, 0, -2, []) := rfl
theorem tX7_play_19 : tbX7_play 19 = (.ireturn, 20, 0, 0, 0, 0, []) := rfl
theorem tX7_play_20 : tbX7_play 20 = (.aload_n 0, 21, 0, 0, 0, 0, []) := rfl
theorem tX7_play_21 : tbX7_play 21 = (.invokevirtual 50, 24, 95, 0, 7, 0, []) := rfl
theorem tX7_play_24 : tbX7_play 24 = (.aload_n 0, 25, 0, 0, 0, 0, []) := rfl
theorem tX7_play_25 : tbX7_play 25 = (.invokevirtual 167, 28, 153, 0, 7, 0, []) := rfl
theorem tX7_play_28 : tbX7_play 28 = (.pop, 29, 0, 0, 0, 0, []) := rfl
theorem tX7_play_29 : tbX7_play 29 = (.aload_n 0, 30, 0, 0, 0, 0, []) := rfl
theorem tX7_play_30 : tbX7_play 30 = (.getfield 149, 33, 7, 12, 0, 0, []) := rfl
theorem tX7_play_33 : tbX7_play 33 = (.ireturn, 34, 0, 0, 0, 0, []) := rfl
end
section
/-! each instruction's condition as an equation -/
section RUL
variable {ret : Option FieldType} {n : Nat} {sh : pw_Sh} {P : pw_P} {C : pw_C} {Q : pw_Q} {nx a b c : Nat} {v : Int32} {sw : List (Int32 × Nat)} {L : List (Option Value)} {st : List Value} {I : pw_I} {K : pw_Kt}
theorem e_iconst {z0 : Int} : sx ret n sh P C Q (.iconst z0) nx a b c v sw L st I K = (K nx L (.int v :: st) I) := rfl
theorem e_bipush {z0 : Int} : sx ret n sh P C Q (.bipush z0) nx a b c v sw L st I K = (K nx L (.int v :: st) I) := rfl
theorem e_sipush {z0 : Int} : sx ret n sh P C Q (.sipush z0) nx a b c v sw L st I K = (K nx L (.int v :: st) I) := rfl
theorem e_ldc {z0 : Nat} : sx ret n sh P C Q (.ldc z0) nx a b c v sw L st I K = (K nx L (.int v :: st) I) := rfl
theorem e_ldc_w {z0 : Nat} : sx ret n sh P C Q (.ldc_w z0) nx a b c v sw L st I K = (K nx L (.int v :: st) I) := rfl
theorem e_iload_n {j : Fin 4} : sx ret n sh P C Q (.iload_n j) nx a b c v sw L st I K = (s_l L j.val fun w => s_i [w] fun x _ => K nx L (.int x :: st) I) := rfl
theorem e_iload {j : Nat} : sx ret n sh P C Q (.iload j) nx a b c v sw L st I K = (s_l L j fun w => s_i [w] fun x _ => K nx L (.int x :: st) I) := rfl
theorem e_aload_n {j : Fin 4} : sx ret n sh P C Q (.aload_n j) nx a b c v sw L st I K = (s_l L j.val fun w => s_r [w] fun x _ => K nx L (.ref x :: st) I) := rfl
theorem e_aload {j : Nat} : sx ret n sh P C Q (.aload j) nx a b c v sw L st I K = (s_l L j fun w => s_r [w] fun x _ => K nx L (.ref x :: st) I) := rfl
theorem e_istore_n {j : Fin 4} : sx ret n sh P C Q (.istore_n j) nx a b c v sw L st I K = (s_i st fun x r => j.val < L.length ∧ K nx (L.set j.val (some (.int x))) r I) := rfl
theorem e_istore {j : Nat} : sx ret n sh P C Q (.istore j) nx a b c v sw L st I K = (s_i st fun x r => j < L.length ∧ K nx (L.set j (some (.int x))) r I) := rfl
theorem e_astore_n {j : Fin 4} : sx ret n sh P C Q (.astore_n j) nx a b c v sw L st I K = (s_r st fun x r => j.val < L.length ∧ K nx (L.set j.val (some (.ref x))) r I) := rfl
theorem e_astore {j : Nat} : sx ret n sh P C Q (.astore j) nx a b c v sw L st I K = (s_r st fun x r => j < L.length ∧ K nx (L.set j (some (.ref x))) r I) := rfl
theorem e_iinc {j : Nat} {z1 : Int} : sx ret n sh P C Q (.iinc j z1) nx a b c v sw L st I K = (s_l L j fun w => s_i [w] fun x _ => K nx (L.set j (some (.int (x + v)))) st I) := rfl
theorem e_iadd  : sx ret n sh P C Q .iadd nx a b c v sw L st I K = (s_i st fun y r => s_i r fun x r => K nx L (.int (x + y) :: r) I) := rfl
theorem e_isub  : sx ret n sh P C Q .isub nx a b c v sw L st I K = (s_i st fun y r => s_i r fun x r => K nx L (.int (x - y) :: r) I) := rfl
theorem e_imul  : sx ret n sh P C Q .imul nx a b c v sw L st I K = (s_i st fun y r => s_i r fun x r => K nx L (.int (x * y) :: r) I) := rfl
theorem e_iand  : sx ret n sh P C Q .iand nx a b c v sw L st I K = (s_i st fun y r => s_i r fun x r => K nx L (.int (x &&& y) :: r) I) := rfl
theorem e_ior  : sx ret n sh P C Q .ior nx a b c v sw L st I K = (s_i st fun y r => s_i r fun x r => K nx L (.int (x ||| y) :: r) I) := rfl
theorem e_ixor  : sx ret n sh P C Q .ixor nx a b c v sw L st I K = (s_i st fun y r => s_i r fun x r => K nx L (.int (x ^^^ y) :: r) I) := rfl
theorem e_idiv  : sx ret n sh P C Q .idiv nx a b c v sw L st I K = (s_i st fun y r => s_i r fun x r => ¬ y = 0 ∧ K nx L (.int (x / y) :: r) I) := rfl
theorem e_irem  : sx ret n sh P C Q .irem nx a b c v sw L st I K = (s_i st fun y r => s_i r fun x r => ¬ y = 0 ∧ K nx L (.int (x - x / y * y) :: r) I) := rfl
theorem e_ishl  : sx ret n sh P C Q .ishl nx a b c v sw L st I K = (s_i st fun y r => s_i r fun x r => K nx L (.int (x <<< (y &&& 31)) :: r) I) := rfl
theorem e_ishr  : sx ret n sh P C Q .ishr nx a b c v sw L st I K = (s_i st fun y r => s_i r fun x r => K nx L (.int (x >>> (y &&& 31)) :: r) I) := rfl
theorem e_iushr  : sx ret n sh P C Q .iushr nx a b c v sw L st I K = (s_i st fun y r => s_i r fun x r => K nx L (.int (x.toUInt32 >>> (y.toUInt32 &&& Int32.toUInt32 31)).toInt32 :: r) I) := rfl
theorem e_i2c  : sx ret n sh P C Q .i2c nx a b c v sw L st I K = (s_i st fun x r => K nx L (.int (x.toUInt32 % 65536).toInt32 :: r) I) := rfl
theorem e_dup  : sx ret n sh P C Q .dup nx a b c v sw L st I K = (s_v st fun x r => K nx L (x :: x :: r) I) := rfl
theorem e_dup2  : sx ret n sh P C Q .dup2 nx a b c v sw L st I K = (s_v st fun x r => s_v r fun y r => K nx L (x :: y :: x :: y :: r) I) := rfl
theorem e_pop  : sx ret n sh P C Q .pop nx a b c v sw L st I K = (s_v st fun _ r => K nx L r I) := rfl
theorem e_goto {z0 : Int} : sx ret n sh P C Q (.goto z0) nx a b c v sw L st I K = (K a L st I) := rfl
theorem e_ifCond {cd : ClassFile.Cond} {z1 : Int} : sx ret n sh P C Q (.ifCond cd z1) nx a b c v sw L st I K = (s_i st fun x r => s_p cd x 0 (K a L r I) (K nx L r I)) := rfl
theorem e_if_icmp {cd : ClassFile.Cond} {z1 : Int} : sx ret n sh P C Q (.if_icmp cd z1) nx a b c v sw L st I K = (s_i st fun y r => s_i r fun x r => s_p cd x y (K a L r I) (K nx L r I)) := rfl
theorem e_tableswitch {z0 : Int} {z1 : Int} {z2 : Int} {z3 : Array Int} : sx ret n sh P C Q (.tableswitch z0 z1 z2 z3) nx a b c v sw L st I K = (s_i st fun x r => s_w sw x a (fun t => K t L r I)) := rfl
theorem e_lookupswitch {z0 : Int} {z1 : Array (Int × Int)} : sx ret n sh P C Q (.lookupswitch z0 z1) nx a b c v sw L st I K = (s_i st fun x r => s_w sw x a (fun t => K t L r I)) := rfl
theorem e_getfield_i {z0 : Nat}  : sx ret n sh P C Q (.getfield z0) nx a b c v [] L st I K = (s_r st fun o r => (sh o).1 = a ∧ K nx L (.int (I o b) :: r) I) := rfl
theorem e_getfield_r {z0 : Nat} {z1 : Int32 × Nat} {z2 : List (Int32 × Nat)} : sx ret n sh P C Q (.getfield z0) nx a b c v (z1 :: z2) L st I K = (s_r st fun o r => (sh o).1 = a ∧ K nx L (va_rf (P o b) :: r) I) := rfl
theorem e_putfield_i {z0 : Nat}  : sx ret n sh P C Q (.putfield z0) nx a b c v [] L st I K = (s_i st fun x r => s_r r fun o r => (sh o).1 = a ∧ True ∧ K nx L r (pw_up I o b x)) := rfl
theorem e_putfield_z {z0 : Nat} {z1 : Int32 × Nat} {z2 : List (Int32 × Nat)} : sx ret n sh P C Q (.putfield z0) nx a b c v (z1 :: z2) L st I K = (s_i st fun x r => s_r r fun o r => (sh o).1 = a ∧ (x = 0 ∨ x = 1) ∧ K nx L r (pw_up I o b x)) := rfl
theorem e_iaload  : sx ret n sh P C Q .iaload nx a b c v sw L st I K = (s_i st fun j r => s_r r fun o r => (sh o).1 = 8 ∧ vp_in j (sh o).2 ∧ K nx L (.int (I o j.toNatClampNeg) :: r) I) := rfl
theorem e_caload  : sx ret n sh P C Q .caload nx a b c v sw L st I K = (s_i st fun j r => s_r r fun o r => (sh o).1 = 9 ∧ vp_in j (sh o).2 ∧ K nx L (.int (I o j.toNatClampNeg) :: r) I) := rfl
theorem e_aaload  : sx ret n sh P C Q .aaload nx a b c v sw L st I K = (s_i st fun j r => s_r r fun o r => (10 ≤ (sh o).1 ∧ (sh o).1 ≤ 12) ∧ vp_in j (sh o).2 ∧ K nx L (va_rf (P o j.toNatClampNeg) :: r) I) := rfl
theorem e_iastore  : sx ret n sh P C Q .iastore nx a b c v sw L st I K = (s_i st fun x r => s_i r fun j r => s_r r fun o r => (sh o).1 = 8 ∧ vp_in j (sh o).2 ∧ K nx L r (pw_up I o j.toNatClampNeg x)) := rfl
theorem e_castore  : sx ret n sh P C Q .castore nx a b c v sw L st I K = (s_i st fun x r => s_i r fun j r => s_r r fun o r => (sh o).1 = 9 ∧ vp_in j (sh o).2 ∧ pw_nok (some .char) x ∧ K nx L r (pw_up I o j.toNatClampNeg x)) := rfl
theorem e_arraylength  : sx ret n sh P C Q .arraylength nx a b c v sw L st I K = (s_r st fun o r => (8 ≤ (sh o).1 ∧ (sh o).1 ≤ 12) ∧ K nx L (.int (nI (sh o).2) :: r) I) := rfl
theorem e_invokestatic {z0 : Nat} : sx ret n sh P C Q (.invokestatic z0) nx a b c v sw L st I K = (s_a b st [] fun Ag r => s_m 8 r ∧ C a Ag I (fun w I' => K nx L (w.toList ++ r) I')) := rfl
theorem e_invokevirtual {z0 : Nat} : sx ret n sh P C Q (.invokevirtual z0) nx a b c v sw L st I K = (s_a b st [] fun Ag r => s_r r fun o r => (sh o).1 = c ∧ s_m 8 r ∧ C a (.ref o :: Ag) I (fun w I' => K nx L (w.toList ++ r) I')) := rfl
theorem e_ireturn  : sx ret n sh P C Q .ireturn nx a b c v sw L st I K = (s_i st fun x r => r = [] ∧ pw_nok ret x ∧ Q (some (.int x)) n sh P I) := rfl
theorem e_return_  : sx ret n sh P C Q .return_ nx a b c v sw L st I K = (st = [] ∧ ret = none ∧ Q none n sh P I) := rfl
end RUL
theorem s_i_c {x : Int32} {r : List Value} {k : Int32 → List Value → Prop} : s_i (.int x :: r) k = k x r := rfl
theorem s_r_c {x : Nat} {r : List Value} {k : Nat → List Value → Prop} : s_r (.ref x :: r) k = k x r := rfl
theorem s_v_i {x : Int32} {r : List Value} {k : Value → List Value → Prop} : s_v (.int x :: r) k = k (.int x) r := rfl
theorem s_v_r {x : Nat} {r : List Value} {k : Value → List Value → Prop} : s_v (.ref x :: r) k = k (.ref x) r := rfl
theorem s_l_0 {v : Value} {L : List (Option Value)} {k : Value → Prop} : s_l (some v :: L) 0 k = k v := rfl
theorem s_l_1 {o : Option Value} {v : Value} {L : List (Option Value)} {k : Value → Prop} : s_l (o :: some v :: L) 1 k = k v := by cases o <;> rfl
theorem s_l_2 {o1 o2 : Option Value} {v : Value} {L : List (Option Value)} {k : Value → Prop} : s_l (o1 :: o2 :: some v :: L) 2 k = k v := by cases o1 <;> cases o2 <;> rfl
theorem s_l_3 {o1 o2 o3 : Option Value} {v : Value} {L : List (Option Value)} {k : Value → Prop} : s_l (o1 :: o2 :: o3 :: some v :: L) 3 k = k v := by cases o1 <;> cases o2 <;> cases o3 <;> rfl
theorem s_l_4 {o1 o2 o3 o4 : Option Value} {v : Value} {L : List (Option Value)} {k : Value → Prop} : s_l (o1 :: o2 :: o3 :: o4 :: some v :: L) 4 k = k v := by cases o1 <;> cases o2 <;> cases o3 <;> cases o4 <;> rfl
theorem s_l_5 {o1 o2 o3 o4 o5 : Option Value} {v : Value} {L : List (Option Value)} {k : Value → Prop} : s_l (o1 :: o2 :: o3 :: o4 :: o5 :: some v :: L) 5 k = k v := by cases o1 <;> cases o2 <;> cases o3 <;> cases o4 <;> cases o5 <;> rfl
theorem s_l_6 {o1 o2 o3 o4 o5 o6 : Option Value} {v : Value} {L : List (Option Value)} {k : Value → Prop} : s_l (o1 :: o2 :: o3 :: o4 :: o5 :: o6 :: some v :: L) 6 k = k v := by cases o1 <;> cases o2 <;> cases o3 <;> cases o4 <;> cases o5 <;> cases o6 <;> rfl
theorem s_a_0 {st acc : List Value} {k : List Value → List Value → Prop} : s_a 0 st acc k = k acc st := by cases st <;> rfl
theorem s_a_1 {v : Value} {st acc : List Value} {k : List Value → List Value → Prop} : s_a 1 (v :: st) acc k = k (v :: acc) st := by cases st <;> rfl
theorem s_a_2 {v w : Value} {st acc : List Value} {k : List Value → List Value → Prop} : s_a 2 (v :: w :: st) acc k = k (w :: v :: acc) st := by cases st <;> rfl
theorem s_a_3 {v w u : Value} {st acc : List Value} {k : List Value → List Value → Prop} : s_a 3 (v :: w :: u :: st) acc k = k (u :: w :: v :: acc) st := by cases st <;> rfl
theorem s_m_0 {n : Nat} : s_m n [] = True := by cases n <;> rfl
theorem s_m_i {x : Int32} {r : List Value} : s_m 8 (.int x :: r) = s_m 7 r := rfl
theorem s_m_r {x : Nat} {r : List Value} : s_m 8 (.ref x :: r) = s_m 7 r := rfl
theorem s_m_i7 {x : Int32} {r : List Value} : s_m 7 (.int x :: r) = s_m 6 r := rfl
theorem s_m_r7 {x : Nat} {r : List Value} : s_m 7 (.ref x :: r) = s_m 6 r := rfl
theorem s_m_i6 {x : Int32} {r : List Value} : s_m 6 (.int x :: r) = s_m 5 r := rfl
theorem s_m_r6 {x : Nat} {r : List Value} : s_m 6 (.ref x :: r) = s_m 5 r := rfl
theorem s_m_i5 {x : Int32} {r : List Value} : s_m 5 (.int x :: r) = s_m 4 r := rfl
theorem s_m_r5 {x : Nat} {r : List Value} : s_m 5 (.ref x :: r) = s_m 4 r := rfl
theorem s_m_i4 {x : Int32} {r : List Value} : s_m 4 (.int x :: r) = s_m 3 r := rfl
theorem s_m_r4 {x : Nat} {r : List Value} : s_m 4 (.ref x :: r) = s_m 3 r := rfl
theorem s_w_n {x : Int32} {d : Nat} {k : Nat → Prop} : s_w [] x d k = k d := rfl
theorem s_w_c {c : Int32} {t : Nat} {r : List (Int32 × Nat)} {x : Int32} {d : Nat} {k : Nat → Prop} : s_w ((c, t) :: r) x d k = ((x = c → k t) ∧ (¬ x = c → s_w r x d k)) := rfl
theorem s_p_eq {x y : Int32} {A B : Prop} : s_p .eq x y A B = ((x = y → A) ∧ (¬ x = y → B)) := rfl
theorem s_p_ne {x y : Int32} {A B : Prop} : s_p .ne x y A B = ((¬ x = y → A) ∧ (x = y → B)) := rfl
theorem s_p_lt {x y : Int32} {A B : Prop} : s_p .lt x y A B = ((x < y → A) ∧ (¬ x < y → B)) := rfl
theorem s_p_ge {x y : Int32} {A B : Prop} : s_p .ge x y A B = ((y ≤ x → A) ∧ (¬ y ≤ x → B)) := rfl
theorem s_p_gt {x y : Int32} {A B : Prop} : s_p .gt x y A B = ((y < x → A) ∧ (¬ y < x → B)) := rfl
theorem s_p_le {x y : Int32} {A B : Prop} : s_p .le x y A B = ((x ≤ y → A) ∧ (¬ x ≤ y → B)) := rfl
theorem nk_i {x : Int32} : pw_nok (some .int) x = True := rfl
theorem nk_z {x : Int32} : pw_nok (some .boolean) x = (x = 0 ∨ x = 1) := rfl
theorem nk_c {x : Int32} : pw_nok (some .char) x = (∃ n : Nat, n < 65536 ∧ x = nI n) := rfl
theorem rf_s {a : Nat} : va_rf (some a) = .ref a := rfl
theorem ov_s {v : Value} {r : List Value} : (some v).toList ++ r = v :: r := rfl
theorem ov_n {r : List Value} : (none : Option Value).toList ++ r = r := rfl
theorem fin0 : ((0 : Fin 4) : Nat) = 0 := rfl
theorem fin1 : ((1 : Fin 4) : Nat) = 1 := rfl
theorem fin2 : ((2 : Fin 4) : Nat) = 2 := rfl
theorem fin3 : ((3 : Fin 4) : Nat) = 3 := rfl
section VCS
variable {g : pw_g} {n : Nat} {sh : pw_Sh} {P : pw_P} {uc us : Nat} {tb : Nat → pm_E} {C : pw_C} {stop : Nat → Bool} {Q : pw_Q} {k pc : Nat} {L : List (Option Value)} {st : List Value} {I : pw_I}
def vq (g : pw_g) (n : Nat) (sh : pw_Sh) (P : pw_P) (C : pw_C) (Q : pw_Q) (q : pm_E) (L : List (Option Value)) (st : List Value) (I : pw_I) (K : pw_Kt) : Prop := sx g.1.2.2.2 n sh P C Q q.1 q.2.1 q.2.2.1 q.2.2.2.1 q.2.2.2.2.1 q.2.2.2.2.2.1 q.2.2.2.2.2.2 L st I K
def vk (g : pw_g) (n : Nat) (sh : pw_Sh) (P : pw_P) (uc us : Nat) (tb : Nat → pm_E) (C : pw_C) (stop : Nat → Bool) (Q : pw_Q) (k : Nat) : pw_Kt := fun pc' L' st' I' => bif stop pc' then PW g n sh P I' uc us pc' L' st' Q else vc g n sh P uc us tb C stop Q k pc' L' st' I'
theorem vc_s : vc g n sh P uc us tb C stop Q (k + 1) pc L st I = vq g n sh P C Q (tb pc) L st I (vk g n sh P uc us tb C stop Q k) := rfl
theorem vq_s {K : pw_Kt} {i : Instr} {nx a b c : Nat} {v : Int32} {sw : List (Int32 × Nat)} : vq g n sh P C Q (i, nx, a, b, c, v, sw) L st I K = sx g.1.2.2.2 n sh P C Q i nx a b c v sw L st I K := rfl
theorem vk_s : vk g n sh P uc us tb C stop Q k pc L st I = (bif stop pc then PW g n sh P I uc us pc L st Q else vc g n sh P uc us tb C stop Q k pc L st I) := rfl
end VCS
end
section
/-! the way into a body: its table, its callees (cc), where to stop (st) -/
def pw_no : pw_C := fun _ _ _ _ => False
abbrev pw_Wp : Type := List Value → pw_I → (Option Value → pw_I → Prop) → Prop
def cc : List (Nat × pw_Wp) → pw_C
  | [], _, _, _, _ => False
  | (k, w) :: r, a, Ag, I, K => bif k == a then w Ag I K else cc r a Ag I K
theorem cc_s {k a : Nat} {w : pw_Wp} {r : List (Nat × pw_Wp)} {Ag : List Value} {I : pw_I} {K : Option Value → pw_I → Prop} : cc ((k, w) :: r) a Ag I K = (bif k == a then w Ag I K else cc r a Ag I K) := rfl
theorem cc_0 {a : Nat} {Ag : List Value} {I : pw_I} {K : Option Value → pw_I → Prop} : cc [] a Ag I K = False := rfl
section CCO
variable {g : pw_g} {n : Nat} {sh : pw_Sh} {P : pw_P}
theorem cc_n : ∀ a Ag I K, cc [] a Ag I K → pw_cal g n sh P pw_Ms a Ag I K := fun _ _ _ _ h => h.elim
theorem cc_c {k : Nat} {w : pw_Wp} {r : List (Nat × pw_Wp)} (h1 : ∀ Ag I K, w Ag I K → pw_cal g n sh P pw_Ms k Ag I K) (h2 : ∀ a Ag I K, cc r a Ag I K → pw_cal g n sh P pw_Ms a Ag I K) : ∀ a Ag I K, cc ((k, w) :: r) a Ag I K → pw_cal g n sh P pw_Ms a Ag I K := by
  intro a Ag I K h
  rw [cc_s] at h
  cases e : k == a with
  | true =>
    rw [e] at h
    have : k = a := by simpa using e
    subst this
    exact h1 _ _ _ h
  | false => rw [e] at h; exact h2 _ _ _ _ h
end CCO
theorem pw_go {y : pm_I} {tb : Nat → pm_E} (ok : ∀ pc, (tb pc).1 = .nop ∨ pm_ok y pw_Ms pc (tb pc)) {d mc ms base n uc us pc : Nat} {X : pw_X} {sh : pw_Sh} {P : pw_P} {I : pw_I} {L : List (Option Value)} {st : List Value} {Q : pw_Q} (C : pw_C) (hu : uc ≤ mc ∧ us ≤ ms)
    (hC : ∀ a Ag I K, C a Ag I K → pw_cal (y, d, mc, ms, X, base) n sh P pw_Ms a Ag I K) (stop : Nat → Bool) (k : Nat) (h : vc (y, d, mc, ms, X, base) n sh P uc us tb C stop Q k pc L st I) : PW (y, d, mc, ms, X, base) n sh P I uc us pc L st Q :=
  pw_vcs (g := (y, d, mc, ms, X, base)) (Ms := pw_Ms) (C := C) (tb := tb) hu hC ok stop k h
def st0 : Nat → Bool := fun _ => false
theorem st0_s {k : Nat} : st0 k = false := rfl
def st1 (a : Nat) : Nat → Bool := fun k => k == a
theorem st1_s {a k : Nat} : st1 a k = (k == a) := rfl
def st2 (a b : Nat) : Nat → Bool := fun k => k == a || k == b
theorem st2_s {a b k : Nat} : st2 a b k = (k == a || k == b) := rfl
def st3 (a b c : Nat) : Nat → Bool := fun k => k == a || (k == b || k == c)
theorem st3_s {a b c k : Nat} : st3 a b c k = (k == a || (k == b || k == c)) := rfl
/-- a contract of a method that makes nothing and moves no reference -/
def pw_ok (y : pm_I) (d base n : Nat) (sh : pw_Sh) (P : pw_P) (Ag : List Value) (I : pw_I) (K : Option Value → pw_I → Prop) : Prop := PM y d 0 0 base Ag n sh P I (fun v n' sh' P' I' => n' = n ∧ sh' = sh ∧ P' = P ∧ K v I')
def pw_QK (n : Nat) (sh : pw_Sh) (P : pw_P) (K : Option Value → pw_I → Prop) : pw_Q := fun v n' sh' P' I' => n' = n ∧ sh' = sh ∧ P' = P ∧ K v I'
theorem pw_QK_s {n : Nat} {sh : pw_Sh} {P : pw_P} {K : Option Value → pw_I → Prop} {v : Option Value} {I : pw_I} : pw_QK n sh P K v n sh P I = K v I := by
  unfold pw_QK
  simp
theorem c_r {a : Nat} : ∀ v ∈ [Value.ref a], v.category = 1 := by
  intro v hv
  simp only [List.mem_cons, List.not_mem_nil, or_false] at hv
  subst hv; rfl
theorem c_i {x : Int32} : ∀ v ∈ [Value.int x], v.category = 1 := by
  intro v hv
  simp only [List.mem_cons, List.not_mem_nil, or_false] at hv
  subst hv; rfl
theorem c_rr {a b : Nat} : ∀ v ∈ [Value.ref a, .ref b], v.category = 1 := by
  intro v hv
  simp only [List.mem_cons, List.not_mem_nil, or_false] at hv
  rcases hv with rfl | rfl <;> rfl
theorem c_ri {a : Nat} {x : Int32} : ∀ v ∈ [Value.ref a, .int x], v.category = 1 := by
  intro v hv
  simp only [List.mem_cons, List.not_mem_nil, or_false] at hv
  rcases hv with rfl | rfl <;> rfl
theorem c_rii {a : Nat} {x y : Int32} : ∀ v ∈ [Value.ref a, .int x, .int y], v.category = 1 := by
  intro v hv
  simp only [List.mem_cons, List.not_mem_nil, or_false] at hv
  rcases hv with rfl | rfl | rfl <;> rfl
theorem c_riii {a : Nat} {x y z : Int32} : ∀ v ∈ [Value.ref a, .int x, .int y, .int z], v.category = 1 := by
  intro v hv
  simp only [List.mem_cons, List.not_mem_nil, or_false] at hv
  rcases hv with rfl | rfl | rfl | rfl <;> rfl
theorem c_ii {x y : Int32} : ∀ v ∈ [Value.int x, .int y], v.category = 1 := by
  intro v hv
  simp only [List.mem_cons, List.not_mem_nil, or_false] at hv
  rcases hv with rfl | rfl <;> rfl
theorem c_iii {x y z : Int32} : ∀ v ∈ [Value.int x, .int y, .int z], v.category = 1 := by
  intro v hv
  simp only [List.mem_cons, List.not_mem_nil, or_false] at hv
  rcases hv with rfl | rfl | rfl <;> rfl
theorem pl_X0 : plainName RX0 = true := by decide +kernel
theorem pl_X1 : plainName RX1 = true := by decide +kernel
theorem pl_X2 : plainName RX2 = true := by decide +kernel
theorem pl_X3 : plainName RX3 = true := by decide +kernel
theorem pl_X4 : plainName RX4 = true := by decide +kernel
theorem pl_X5 : plainName RX5 = true := by decide +kernel
theorem pl_X6 : plainName RX6 = true := by decide +kernel
theorem pl_X7 : plainName RX7 = true := by decide +kernel
theorem pl_J6 : plainName RJ6 = true := by decide +kernel
/-- from a body to its contract -/
theorem pw_bd {y : pm_I} {d base n : Nat} {sh : pw_Sh} {P : pw_P} {Ag : List Value} {I : pw_I} {K : Option Value → pw_I → Prop} (L : List (Option Value)) (hy : plainName y.1.cls = true) (hc : ∀ v ∈ Ag, v.category = 1) (hn : Nat.ble Ag.length y.2.2.1 = true) (hL : pl_in Ag y.2.2.1 = L)
    (h : PW (y, d, 0, 0, none, base) n sh P I 0 0 0 L [] (pw_QK n sh P K)) : pw_ok y d base n sh P Ag I K := by
  subst hL
  exact PM.of_PW hy hc (Nat.le_of_ble_eq_true hn) h
/-- numbers -/
theorem ti_lt (a b : Int32) : a < b ↔ a.toInt < b.toInt := Int32.lt_iff_toInt_lt
theorem ti_le (a b : Int32) : a ≤ b ↔ a.toInt ≤ b.toInt := Int32.le_iff_toInt_le
theorem ti_eq (a b : Int32) : a = b ↔ a.toInt = b.toInt := Int32.toInt_inj.symm
theorem ti_in {i : Int32} {n : Nat} (h0 : 0 ≤ i.toInt) (h1 : i.toInt < n) : vp_in i n := vp_in_iff.mpr ⟨h0, h1⟩
theorem ti_nI {n : Nat} (h : n < 2147483648) : (nI n).toInt = (n : Int) := nI_toInt h
theorem ti_nat {x : Int32} (h : 0 ≤ x.toInt) : x = nI x.toNatClampNeg := by
  have h1 : x.toNatClampNeg = x.toInt.toNat := rfl
  have h2 := int_range x
  refine Int32.toInt_inj.mp ?_
  rw [nI_toInt (by omega)]
  omega
theorem ti_add {x y : Int32} (h1 : -2147483648 ≤ x.toInt + y.toInt) (h2 : x.toInt + y.toInt < 2147483648) : (x + y).toInt = x.toInt + y.toInt := by
  rw [Int32.toInt_add]
  exact Int.bmod_eq_of_le (by omega) (by omega)
theorem ti_sub {x y : Int32} (h1 : -2147483648 ≤ x.toInt - y.toInt) (h2 : x.toInt - y.toInt < 2147483648) : (x - y).toInt = x.toInt - y.toInt := by
  rw [Int32.toInt_sub]
  exact Int.bmod_eq_of_le (by omega) (by omega)
theorem ti_mul {x y : Int32} (h1 : -2147483648 ≤ x.toInt * y.toInt) (h2 : x.toInt * y.toInt < 2147483648) : (x * y).toInt = x.toInt * y.toInt := by
  rw [Int32.toInt_mul]
  exact Int.bmod_eq_of_le (by omega) (by omega)
end
section
/-! the reference's row of numbers: its places, and what is read off it -/
theorem cl_nI {k : Nat} (h : k < 2147483648) : (nI k).toNatClampNeg = k := nI_clamp h
theorem in_nI {k N : Nat} (h : k < N) (hN : N < 2147483648) : vp_in (nI k) N := vp_in_nI h hN
theorem ix_l (k : Nat) : (166 + 13 * nI k : Int32) = nI (166 + 13 * k) := by
  rw [show (166 : Int32) = nI 166 from rfl, show (13 : Int32) = nI 13 from rfl, pk_mul, nI_add]
theorem ix_n (k : Nat) : (16 + 25 * nI k : Int32) = nI (16 + 25 * k) := by
  rw [show (16 : Int32) = nI 16 from rfl, show (25 : Int32) = nI 25 from rfl, pk_mul, nI_add]
theorem ix_0 (k : Nat) : (nI k + 0 : Int32) = nI (k + 0) := nI_add k 0
theorem ix_1 (k : Nat) : (nI k + 1 : Int32) = nI (k + 1) := nI_add k 1
theorem ix_2 (k : Nat) : (nI k + 2 : Int32) = nI (k + 2) := nI_add k 2
theorem ix_3 (k : Nat) : (nI k + 3 : Int32) = nI (k + 3) := nI_add k 3
theorem ix_4 (k : Nat) : (nI k + 4 : Int32) = nI (k + 4) := nI_add k 4
theorem ix_5 (k : Nat) : (nI k + 5 : Int32) = nI (k + 5) := nI_add k 5
theorem ix_6 (k : Nat) : (nI k + 6 : Int32) = nI (k + 6) := nI_add k 6
theorem ix_7 (k : Nat) : (nI k + 7 : Int32) = nI (k + 7) := nI_add k 7
theorem ix_8 (k : Nat) : (nI k + 8 : Int32) = nI (k + 8) := nI_add k 8
theorem ix_9 (k : Nat) : (nI k + 9 : Int32) = nI (k + 9) := nI_add k 9
theorem ix_10 (k : Nat) : (nI k + 10 : Int32) = nI (k + 10) := nI_add k 10
theorem ix_11 (k : Nat) : (nI k + 11 : Int32) = nI (k + 11) := nI_add k 11
theorem ix_12 (k : Nat) : (nI k + 12 : Int32) = nI (k + 12) := nI_add k 12
theorem ix_13 (k : Nat) : (nI k + 13 : Int32) = nI (k + 13) := nI_add k 13
theorem ix_14 (k : Nat) : (nI k + 14 : Int32) = nI (k + 14) := nI_add k 14
theorem ix_15 (k : Nat) : (nI k + 15 : Int32) = nI (k + 15) := nI_add k 15
theorem ix_374 (k : Nat) : (nI k + 374 : Int32) = nI (k + 374) := nI_add k 374
theorem ix_100 (k : Nat) : (nI k + 100 : Int32) = nI (k + 100) := nI_add k 100
theorem ix_20 (k : Nat) : (nI k + 20 : Int32) = nI (k + 20) := nI_add k 20
theorem jx_100 (k : Nat) : (100 + nI k : Int32) = nI (100 + k) := nI_add 100 k
theorem jx_11 (k : Nat) : (11 + nI k : Int32) = nI (11 + k) := nI_add 11 k
theorem jx_374 (k : Nat) : (374 + nI k : Int32) = nI (374 + k) := nI_add 374 k
theorem kx_374 (k : Nat) : (374 * nI k : Int32) = nI (374 * k) := pk_mul 374 k
theorem tl_0 : Int32.toInt 0 = 0 := rfl
theorem cl_0 : Int32.toNatClampNeg 0 = 0 := rfl
theorem il_0 : vp_in 0 374 = True := eq_true (in_nI (k := 0) (by decide) (by decide))
theorem tl_1 : Int32.toInt 1 = 1 := rfl
theorem cl_1 : Int32.toNatClampNeg 1 = 1 := rfl
theorem il_1 : vp_in 1 374 = True := eq_true (in_nI (k := 1) (by decide) (by decide))
theorem tl_2 : Int32.toInt 2 = 2 := rfl
theorem cl_2 : Int32.toNatClampNeg 2 = 2 := rfl
theorem il_2 : vp_in 2 374 = True := eq_true (in_nI (k := 2) (by decide) (by decide))
theorem tl_3 : Int32.toInt 3 = 3 := rfl
theorem cl_3 : Int32.toNatClampNeg 3 = 3 := rfl
theorem il_3 : vp_in 3 374 = True := eq_true (in_nI (k := 3) (by decide) (by decide))
theorem tl_4 : Int32.toInt 4 = 4 := rfl
theorem cl_4 : Int32.toNatClampNeg 4 = 4 := rfl
theorem il_4 : vp_in 4 374 = True := eq_true (in_nI (k := 4) (by decide) (by decide))
theorem tl_5 : Int32.toInt 5 = 5 := rfl
theorem cl_5 : Int32.toNatClampNeg 5 = 5 := rfl
theorem il_5 : vp_in 5 374 = True := eq_true (in_nI (k := 5) (by decide) (by decide))
theorem tl_6 : Int32.toInt 6 = 6 := rfl
theorem cl_6 : Int32.toNatClampNeg 6 = 6 := rfl
theorem il_6 : vp_in 6 374 = True := eq_true (in_nI (k := 6) (by decide) (by decide))
theorem tl_7 : Int32.toInt 7 = 7 := rfl
theorem cl_7 : Int32.toNatClampNeg 7 = 7 := rfl
theorem il_7 : vp_in 7 374 = True := eq_true (in_nI (k := 7) (by decide) (by decide))
theorem tl_8 : Int32.toInt 8 = 8 := rfl
theorem cl_8 : Int32.toNatClampNeg 8 = 8 := rfl
theorem il_8 : vp_in 8 374 = True := eq_true (in_nI (k := 8) (by decide) (by decide))
theorem tl_9 : Int32.toInt 9 = 9 := rfl
theorem cl_9 : Int32.toNatClampNeg 9 = 9 := rfl
theorem il_9 : vp_in 9 374 = True := eq_true (in_nI (k := 9) (by decide) (by decide))
theorem tl_10 : Int32.toInt 10 = 10 := rfl
theorem cl_10 : Int32.toNatClampNeg 10 = 10 := rfl
theorem il_10 : vp_in 10 374 = True := eq_true (in_nI (k := 10) (by decide) (by decide))
theorem tl_11 : Int32.toInt 11 = 11 := rfl
theorem cl_11 : Int32.toNatClampNeg 11 = 11 := rfl
theorem il_11 : vp_in 11 374 = True := eq_true (in_nI (k := 11) (by decide) (by decide))
theorem tl_12 : Int32.toInt 12 = 12 := rfl
theorem cl_12 : Int32.toNatClampNeg 12 = 12 := rfl
theorem il_12 : vp_in 12 374 = True := eq_true (in_nI (k := 12) (by decide) (by decide))
theorem tl_13 : Int32.toInt 13 = 13 := rfl
theorem cl_13 : Int32.toNatClampNeg 13 = 13 := rfl
theorem il_13 : vp_in 13 374 = True := eq_true (in_nI (k := 13) (by decide) (by decide))
theorem tl_14 : Int32.toInt 14 = 14 := rfl
theorem cl_14 : Int32.toNatClampNeg 14 = 14 := rfl
theorem il_14 : vp_in 14 374 = True := eq_true (in_nI (k := 14) (by decide) (by decide))
theorem tl_15 : Int32.toInt 15 = 15 := rfl
theorem cl_15 : Int32.toNatClampNeg 15 = 15 := rfl
theorem il_15 : vp_in 15 374 = True := eq_true (in_nI (k := 15) (by decide) (by decide))
theorem tl_16 : Int32.toInt 16 = 16 := rfl
theorem cl_16 : Int32.toNatClampNeg 16 = 16 := rfl
theorem il_16 : vp_in 16 374 = True := eq_true (in_nI (k := 16) (by decide) (by decide))
theorem tl_20 : Int32.toInt 20 = 20 := rfl
theorem tl_21 : Int32.toInt 21 = 21 := rfl
theorem tl_25 : Int32.toInt 25 = 25 := rfl
theorem tl_32 : Int32.toInt 32 = 32 := rfl
theorem tl_48 : Int32.toInt 48 = 48 := rfl
theorem tl_50 : Int32.toInt 50 = 50 := rfl
theorem tl_57 : Int32.toInt 57 = 57 := rfl
theorem tl_58 : Int32.toInt 58 = 58 := rfl
theorem tl_59 : Int32.toInt 59 = 59 := rfl
theorem tl_60 : Int32.toInt 60 = 60 := rfl
theorem tl_99 : Int32.toInt 99 = 99 := rfl
theorem tl_100 : Int32.toInt 100 = 100 := rfl
theorem tl_101 : Int32.toInt 101 = 101 := rfl
theorem tl_108 : Int32.toInt 108 = 108 := rfl
theorem tl_109 : Int32.toInt 109 = 109 := rfl
theorem tl_116 : Int32.toInt 116 = 116 := rfl
theorem tl_120 : Int32.toInt 120 = 120 := rfl
theorem tl_126 : Int32.toInt 126 = 126 := rfl
theorem tl_374 : Int32.toInt 374 = 374 := rfl
theorem tl_1122 : Int32.toInt 1122 = 1122 := rfl
theorem tl_50000 : Int32.toInt 50000 = 50000 := rfl
theorem i10 : ((1 : Int32) = 0) = False := eq_false (by decide)
theorem i01 : ((0 : Int32) = 1) = False := eq_false (by decide)
theorem tl_m1 : Int32.toInt (-1) = -1 := rfl
theorem tl_m2 : Int32.toInt (-2) = -2 := rfl
theorem tl_m3 : Int32.toInt (-3) = -3 := rfl
theorem tl_m4 : Int32.toInt (-4) = -4 := rfl
theorem nI_inj {a b : Nat} (ha : a < 2147483648) (hb : b < 2147483648) : nI a = nI b ↔ a = b := nI_eq ha hb
theorem tn6 {x : Int32} (h : 0 ≤ x.toInt ∧ x.toInt < 6) : ∃ k : Nat, x = nI k ∧ k < 6 :=
  ⟨x.toNatClampNeg, ti_nat h.1, by have := (show x.toNatClampNeg = x.toInt.toNat from rfl); omega⟩
theorem tn16 {x : Int32} (h : 0 ≤ x.toInt ∧ x.toInt < 16) : ∃ k : Nat, x = nI k ∧ k < 16 :=
  ⟨x.toNatClampNeg, ti_nat h.1, by have := (show x.toNatClampNeg = x.toInt.toNat from rfl); omega⟩
/-- the numbers as naturals -/
abbrev vN (S : Nat → Int32) (k : Nat) : Nat := (S k).toNatClampNeg
def bit01 (x : Int32) : Prop := x = 0 ∨ x = 1
/-- the fixed part of what always holds of the row: numbers in their ranges, the tree's upward way -/
def InvB (S : Nat → Int32) : Prop :=
  (S 3 = nI (vN S 3) ∧ 1 ≤ vN S 3 ∧ vN S 3 ≤ 6) ∧ (S 4 = nI (vN S 4) ∧ vN S 4 ≤ 16) ∧ (S 10 = nI (vN S 10) ∧ vN S 10 ≤ 4) ∧
  (∀ j, j < 6 → bit01 (S (16 + 25 * j + 1)) ∧ bit01 (S (16 + 25 * j + 2)) ∧ S (16 + 25 * j + 3) = nI (vN S (16 + 25 * j + 3)) ∧ vN S (16 + 25 * j + 3) ≤ 21) ∧
  (S 16 = -1 ∧ ∀ j, 1 ≤ j → j < 6 → S (16 + 25 * j) = nI (vN S (16 + 25 * j)) ∧ vN S (16 + 25 * j) < j) ∧
  (∀ k, k < 16 → (S (166 + 13 * k) = nI (vN S (166 + 13 * k)) ∧ vN S (166 + 13 * k) < vN S 3) ∧ (0 ≤ (S (166 + 13 * k + 1)).toInt ∧ (S (166 + 13 * k + 1)).toInt ≤ 7) ∧ bit01 (S (166 + 13 * k + 2)) ∧ bit01 (S (166 + 13 * k + 3)) ∧
    (S (166 + 13 * k + 4) = 0 ∨ S (166 + 13 * k + 4) = 1 ∨ S (166 + 13 * k + 4) = 2) ∧ bit01 (S (166 + 13 * k + 5))) ∧
  (∀ i, i < vN S 10 → S (11 + i) = nI (vN S (11 + i)) ∧ vN S (11 + i) < vN S 4) ∧
  ((0 ≤ (S 0).toInt ∧ (S 0).toInt ≤ 50000) ∧ (0 ≤ (S 1).toInt ∧ (S 1).toInt ≤ 8) ∧ (0 ≤ (S 2).toInt ∧ (S 2).toInt ≤ 50))
/-- the nodes from j upward -/
def wayL (on : Nat → Nat) : Nat → Nat → List Nat
  | 0, _ => []
  | f + 1, j => j :: (if j = 0 then [] else wayL on f (on j))
def onS (S : Nat → Int32) (j : Nat) : Nat := vN S (16 + 25 * j)
def wayS (S : Nat → Int32) (j : Nat) : List Nat := wayL (onS S) (j + 1) j
theorem wayL_fuel {on : Nat → Nat} (h : ∀ j, 1 ≤ j → j < 6 → on j < j) : ∀ (f f' j : Nat), j < 6 → j < f → j < f' → wayL on f j = wayL on f' j
  | 0, _, _, _, h1, _ => absurd h1 (by omega)
  | _ + 1, 0, _, _, _, h2 => absurd h2 (by omega)
  | f + 1, f' + 1, j, hj, h1, h2 => by
    unfold wayL
    by_cases e : j = 0
    · rw [if_pos e, if_pos e]
    · rw [if_neg e, if_neg e]
      have := h j (by omega) hj
      rw [wayL_fuel h f f' (on j) (by omega) (by omega) (by omega)]
theorem InvB.on {S : Nat → Int32} (h : InvB S) : ∀ j, 1 ≤ j → j < 6 → onS S j < j := fun j h1 h2 => (h.2.2.2.2.1.2 j h1 h2).2
theorem wayS_0 (S : Nat → Int32) : wayS S 0 = [0] := rfl
theorem wayS_s {S : Nat → Int32} (h : InvB S) {j : Nat} (h1 : 1 ≤ j) (h2 : j < 6) : wayS S j = j :: wayS S (onS S j) := by
  have := h.on j h1 h2
  show wayL _ (j + 1) j = _
  unfold wayL
  rw [if_neg (by omega), wayL_fuel h.on j (onS S j + 1) (onS S j) (by omega) (by omega) (by omega)]
  rfl
def hidW (S : Nat → Int32) (w : List Nat) : Bool := w.any (fun j => S (16 + 25 * j + 2) == 1)
/-- line k is masked, itself or by a node on its way -/
def hidS (S : Nat → Int32) (k : Nat) : Bool := (S (166 + 13 * k + 5) == 1) || hidW S (wayS S (vN S (166 + 13 * k)))
/-- the rank that a line must be above -/
def leastS (S : Nat → Int32) : Int32 := if S 10 = 0 then -1 else S (166 + 13 * vN S (11 + (vN S 10 - 1)) + 1)
def readyS (S : Nat → Int32) (k : Nat) : Bool := (S (166 + 13 * k + 3) == 1) && ((S (166 + 13 * k + 4) == 0) && (!hidS S k && (decide (S 1 ≤ S (166 + 13 * k + 1)) && decide (leastS S < S (166 + 13 * k + 1)))))
/-- a sum, a set, along the first k numbers -/
def sumF (f : Nat → Int32) : Nat → Int32
  | 0 => 0
  | k + 1 => sumF f k + f k
def setF (p : Nat → Bool) : Nat → Int32
  | 0 => 0
  | k + 1 => setF p k ||| (if p k = true then (1 : Int32) <<< (nI k &&& 31) else 0)
def bitsS (x : Int32) : Int32 := sumF (fun k => (x >>> (nI k &&& 31)) &&& 1) 16
def onWay (S : Nat → Int32) (j : Nat) (k : Nat) : Bool := (wayS S (vN S (166 + 13 * k))).contains j
def linesByS (S : Nat → Int32) (j : Nat) : Int32 := setF (onWay S j) (vN S 4)
/-- line k is of the kind what -/
def isOfS (S : Nat → Int32) (what : Int32) (k : Nat) : Bool :=
  if what = 0 then S (166 + 13 * k + 3) == 1 else if what = 1 then readyS S k else if what = 2 then S (166 + 13 * k + 4) == 1 else if what = 3 then S (166 + 13 * k + 4) == 2 else if what = 4 then S (166 + 13 * k + 5) == 1 else hidS S k
def linesOfS (S : Nat → Int32) (what : Int32) : Int32 := setF (isOfS S what) (vN S 4)
def litEdgesS (S : Nat → Int32) : Int32 := sumF (fun k => if S (166 + 13 * k + 2) = 0 then S (166 + 13 * k + 3) else 0) (vN S 4)
/-- a whole row put in the place of another -/
def pw_set (I : pw_I) (a : Nat) (f : Nat → Int32) : pw_I := fun a' k => if a' = a then f k else I a' k
theorem set_s {I : pw_I} {a : Nat} {f : Nat → Int32} : pw_set I a f a = f := by
  funext k
  simp [pw_set]
theorem set_n {I : pw_I} {a a' : Nat} {f : Nat → Int32} (h : a' ≠ a) : pw_set I a f a' = I a' := by
  funext k
  simp [pw_set, h]
theorem set_set {I : pw_I} {a : Nat} {f h : Nat → Int32} : pw_set (pw_set I a f) a h = pw_set I a h := by
  funext a' k
  by_cases e : a' = a <;> simp [pw_set, e]
theorem up_set {I : pw_I} {a k : Nat} {v : Int32} : pw_up I a k v = pw_set I a (upd (I a) k v) := by
  funext a' k'
  by_cases e : a' = a
  · subst e
    by_cases e2 : k' = k <;> simp [pw_set, pw_up, upd, e2]
  · simp [pw_set, pw_up, e]
theorem set_id {I : pw_I} {a : Nat} : pw_set I a (I a) = I := by
  funext a' k
  by_cases e : a' = a
  · subst e; simp [pw_set]
  · simp [pw_set, e]
theorem upd_s {f : Nat → Int32} {k : Nat} {x : Int32} : upd f k x k = x := by simp [upd]
theorem upd_n {f : Nat → Int32} {k j : Nat} {x : Int32} (h : j ≠ k) : upd f k x j = f j := by simp [upd, h]
/-- the reference's objects -/
def pw_mod (sh : pw_Sh) (P : pw_P) (m : Nat) : Prop := sh m = (7, 0) ∧ (P m 0 = some (m + 1) ∧ sh (m + 1) = (8, 374)) ∧ (P m 1 = some (m + 2) ∧ sh (m + 2) = (8, 1496)) ∧ (P m 2 = some (m + 3) ∧ sh (m + 3) = (8, 374)) ∧
  (P m 3 = some (m + 4) ∧ sh (m + 4) = (8, 16)) ∧ (P m 4 = some (m + 5) ∧ sh (m + 5) = (8, 6)) ∧ (P m 5 = some (m + 6) ∧ sh (m + 6) = (8, 6)) ∧ P m 6 = some (m + 7) ∧ sh (m + 7) = (8, 60)
end
section
/-! Row: get, insert, remove, moveBehind -/
section ROW
variable {n : Nat} {sh : pw_Sh} {P : pw_P} {I : pw_I} {base : Nat}
/-- a row at r, its cells at c -/
def pw_row (sh : pw_Sh) (P : pw_P) (r c : Nat) : Prop := sh r = (5, 0) ∧ P r 0 = some c ∧ sh c = (8, 21) ∧ r ≠ c
def w_get (r c : Nat) : pw_Wp := fun Ag I K => match Ag with
  | [.ref o, .int i] => o = r ∧ (I r 1).toInt ≤ 21 ∧ (0 ≤ i.toInt ∧ i.toInt < (I r 1).toInt → K (some (.int (I c i.toNatClampNeg))) I) ∧ (¬ (0 ≤ i.toInt ∧ i.toInt < (I r 1).toInt) → K (some (.int (-1))) I)
  | _ => False
set_option maxRecDepth 100000 in
set_option maxHeartbeats 4000000 in
theorem x_get {r c : Nat} (hr : pw_row sh P r c) {Ag : List Value} {I : pw_I} {K : Option Value → pw_I → Prop} (h : w_get r c Ag I K) : pw_ok mX5_get 0 base n sh P Ag I K := by
  obtain ⟨h1, h2, h3, -⟩ := hr
  unfold w_get at h
  split at h
  · obtain ⟨rfl, h4, hA, hB⟩ := h
    refine pw_bd [_, _] pl_X5 c_ri rfl rfl ?_
    refine pw_go okX5_get (cc []) ⟨Nat.le_refl _, Nat.le_refl _⟩ cc_n (st0) 30 ?_
    simp only [vc_s, vq_s, vk_s, e_iconst, e_bipush, e_sipush, e_ldc, e_ldc_w, e_iload_n, e_iload, e_aload_n, e_aload, e_istore_n, e_istore, e_astore_n, e_astore, e_iinc, e_iadd, e_isub, e_imul, e_iand, e_ior, e_ixor, e_idiv, e_irem, e_ishl, e_ishr, e_iushr, e_i2c, e_dup, e_dup2, e_pop, e_goto, e_ifCond, e_if_icmp, e_tableswitch, e_lookupswitch, e_getfield_i, e_getfield_r, e_putfield_i, e_putfield_z, e_iaload, e_caload, e_aaload, e_iastore, e_castore, e_arraylength, e_invokestatic, e_invokevirtual, e_ireturn, e_return_, s_i_c, s_r_c, s_v_i, s_v_r, s_l_0, s_l_1, s_l_2, s_l_3, s_l_4, s_l_5, s_l_6, s_a_0, s_a_1, s_a_2, s_a_3, s_m_0, s_m_i, s_m_r, s_m_i7, s_m_r7, s_m_i6, s_m_r6, s_m_i5, s_m_r5, s_m_i4, s_m_r4, s_w_n, s_w_c, s_p_eq, s_p_ne, s_p_lt, s_p_ge, s_p_gt, s_p_le, nk_i, nk_z, nk_c, rf_s, ov_s, ov_n, fin0, fin1, fin2, fin3, cond_true, cond_false, List.set_cons_zero, List.set_cons_succ, List.length_cons, List.length_nil, true_and, and_true, true_or, or_true, implies_true, forall_const, not_true_eq_false, not_false_eq_true, false_implies, Nat.reduceAdd, Nat.reduceLT, Nat.reduceBEq, Nat.reduceEqDiff, Bool.or_false, Bool.false_or, Bool.or_true, Bool.true_or, beq_self_eq_true, Nat.reduceLeDiff, Nat.reduceMul, Nat.reduceSub, eq_self, Nat.reduceBneDiff, st0_s, st1_s, st2_s, st3_s, reduceCtorEq, cc_s, cc_0, tl_0, cl_0, il_0, tl_1, cl_1, il_1, tl_2, cl_2, il_2, tl_3, cl_3, il_3, tl_4, cl_4, il_4, tl_5, cl_5, il_5, tl_6, cl_6, il_6, tl_7, cl_7, il_7, tl_8, cl_8, il_8, tl_9, cl_9, il_9, tl_10, cl_10, il_10, tl_11, cl_11, il_11, tl_12, cl_12, il_12, tl_13, cl_13, il_13, tl_14, cl_14, il_14, tl_15, cl_15, il_15, tl_16, cl_16, il_16, tl_20, tl_21, tl_25, tl_32, tl_48, tl_50, tl_57, tl_58, tl_59, tl_60, tl_99, tl_100, tl_101, tl_108, tl_109, tl_116, tl_120, tl_126, tl_374, tl_1122, tl_50000, i10, i01, tl_m1, tl_m2, tl_m3, tl_m4, nr_X5_get, tX5_get_0, tX5_get_1, tX5_get_4, tX5_get_5, tX5_get_6, tX5_get_9, tX5_get_12, tX5_get_13, tX5_get_16, tX5_get_17, tX5_get_18, tX5_get_21, tX5_get_22, h1, h2, h3, pw_QK_s]
    simp only [ti_lt, ti_le, show (0 : Int32).toInt = 0 from rfl]
    refine ⟨fun q => hB (by omega), fun q => ⟨fun q2 => hB (by omega), fun q2 => ⟨ti_in (by omega) (by omega), hA (by omega)⟩⟩⟩
  · exact h.elim
end ROW
end
section
/-! the reference's row: what its writing methods make of it -/
theorem cpy_s {f g : Nat → Int32} {sp dp j : Nat} : upd (va_cpy f g sp dp j) (dp + j) (f (sp + j)) = va_cpy f g sp dp (j + 1) := by
  funext k
  unfold upd va_cpy
  by_cases e : k = dp + j
  · subst e
    rw [if_pos rfl, if_pos ⟨by omega, by omega⟩]
    congr 1; omega
  · rw [if_neg e]
    by_cases h : dp ≤ k ∧ k < dp + j
    · rw [if_pos h, if_pos ⟨h.1, by omega⟩]
    · rw [if_neg h, if_neg (by omega)]
theorem set_comm {I : pw_I} {a b : Nat} {f h : Nat → Int32} (e : a ≠ b) : pw_set (pw_set I a f) b h = pw_set (pw_set I b h) a f := by
  funext a' k
  unfold pw_set
  by_cases e1 : a' = b
  · rw [if_pos e1, if_neg (by omega), if_pos e1]
  · rw [if_neg e1]
    by_cases e2 : a' = a
    · rw [if_pos e2, if_pos e2]
    · rw [if_neg e2, if_neg e2, if_neg e1]
theorem set_idn {I : pw_I} {a : Nat} {f : Nat → Int32} (e : I a = f) : pw_set I a f = I := by
  subst e
  exact set_id
theorem upd_upd {f : Nat → Int32} {k : Nat} {x y : Int32} : upd (upd f k x) k y = upd f k y := by
  funext j
  unfold upd
  by_cases e : j = k
  · rw [if_pos e, if_pos e]
  · rw [if_neg e, if_neg e, if_neg e]
theorem cpy_s0 {f g : Nat → Int32} {j : Nat} : upd (va_cpy f g 0 0 j) j (f j) = va_cpy f g 0 0 (j + 1) := by
  have := cpy_s (f := f) (g := g) (sp := 0) (dp := 0) (j := j)
  rwa [Nat.zero_add] at this
theorem cpy_sd {f g : Nat → Int32} {dp j : Nat} : upd (va_cpy f g 0 dp j) (dp + j) (f j) = va_cpy f g 0 dp (j + 1) := by
  have := cpy_s (f := f) (g := g) (sp := 0) (dp := dp) (j := j)
  rwa [Nat.zero_add] at this
theorem cpy_ss {f g : Nat → Int32} {sp j : Nat} : upd (va_cpy f g sp 0 j) j (f (sp + j)) = va_cpy f g sp 0 (j + 1) := by
  have := cpy_s (f := f) (g := g) (sp := sp) (dp := 0) (j := j)
  rwa [Nat.zero_add] at this
theorem nI_geL {a : Nat} (b : Nat) (h : a < b) (hb : b < 2147483648) : ¬ nI b ≤ nI a := nI_ge h hb
theorem nI_leL {a : Nat} (b : Nat) (h : b ≤ a) (hb : a < 2147483648) : nI b ≤ nI a := nI_le h hb
theorem cpy_0 {f g : Nat → Int32} {sp dp : Nat} : va_cpy f g sp dp 0 = g := by
  funext k
  unfold va_cpy
  rw [if_neg (by omega)]
theorem cpy_hi {f g : Nat → Int32} {sp dp n k : Nat} (h : dp + n ≤ k) : va_cpy f g sp dp n k = g k := by
  unfold va_cpy
  rw [if_neg (by omega)]
theorem cpy_lo {f g : Nat → Int32} {sp dp n k : Nat} (h : k < dp) : va_cpy f g sp dp n k = g k := by
  unfold va_cpy
  rw [if_neg (by omega)]
theorem cpy_in {f g : Nat → Int32} {sp dp n k : Nat} (h : dp ≤ k) (h2 : k < dp + n) : va_cpy f g sp dp n k = f (sp + (k - dp)) := by
  unfold va_cpy
  rw [if_pos ⟨h, h2⟩]
/-- one more state is kept: how many, and all of them -/
def recU (u : Nat) : Nat := if u = 4 then 3 else u
def recB (S B : Nat → Int32) (u : Nat) : Nat → Int32 := va_cpy S (if u = 4 then va_cpy B B 374 0 1122 else B) 0 (374 * recU u) 374
def recI (m : Nat) (I : pw_I) : pw_I := pw_set (pw_set I (m + 2) (recB (I (m + 1)) (I (m + 2)) (vN (I m) 8))) m (upd (I m) 8 (nI (recU (vN (I m) 8) + 1)))
def hangS (S : Nat → Int32) (j : Nat) (x : Int32) : Nat → Int32 := upd (upd S (16 + 25 * j + 4 + vN S (16 + 25 * j + 3)) x) (16 + 25 * j + 3) (nI (vN S (16 + 25 * j + 3) + 1))
/-- the entry x of a row of n from place p goes to its end; i is its place -/
def rotS (S : Nat → Int32) (p i n : Nat) : Nat → Int32 := upd (va_cpy S S (p + i + 1) (p + i) (n - 1 - i)) (p + n - 1) (S (p + i))
/-- the place of x among f 0 .. f (n - 1), n if there is none -/
def posF (f : Nat → Int32) (x : Int32) : Nat → Nat
  | 0 => 0
  | n + 1 => if posF f x n < n then posF f x n else if f n = x then n else n + 1
def turnB (S : Nat → Int32) (j : Nat) (x : Int32) : Nat → Int32 := rotS S (16 + 25 * j + 4) (posF (fun i => S (16 + 25 * j + 4 + i)) x (vN S (16 + 25 * j + 3))) (vN S (16 + 25 * j + 3))
def turnW : List Nat → (Nat → Int32) → Int32 → (Nat → Int32)
  | [], S, _ => S
  | j :: w, S, x => turnW w (if S (16 + 25 * j + 1) = 1 then turnB S j x else S) (nI (100 + j))
def turnWS (S : Nat → Int32) (k : Nat) : Nat → Int32 := turnW (wayS S (vN S (166 + 13 * k))) S (nI k)
def goTakeS (S : Nat → Int32) (k : Nat) : Nat → Int32 :=
  let S1 := upd (upd (upd (upd S (11 + vN S 10) (nI k)) 10 (S 10 + 1)) (166 + 13 * k + 4) 1) (166 + 13 * k + 8) (S (166 + 13 * k + 8) + 1)
  turnWS (if S (166 + 13 * k + 2) = 0 then upd (upd (upd S1 (166 + 13 * k + 3) 0) (166 + 13 * k + 9) (if S (166 + 13 * k + 9) < S 0 - S (166 + 13 * k + 10) then S 0 - S (166 + 13 * k + 10) else S (166 + 13 * k + 9))) 7 (S 7 + 1) else upd S1 8 (S 8 + 1)) k
def goDoneS (S : Nat → Int32) : Nat → Int32 :=
  let k := vN S (11 + (vN S 10 - 1))
  let S1 := upd (upd (upd (upd (upd S 10 (S 10 - 1)) (166 + 13 * k + 4) 2) (166 + 13 * k + 11) (S 0 + S 2)) (166 + 13 * k + 12) (S 15)) 15 (S 15 + 1)
  if S 2 = 0 then upd (upd S1 (166 + 13 * k + 4) 0) 9 (S 9 + 1) else S1
def goEdgeS (S : Nat → Int32) (k : Nat) : Nat → Int32 :=
  let S1 := upd (upd S 5 (S 5 + 1)) (166 + 13 * k + 6) (S (166 + 13 * k + 6) + 1)
  if S (166 + 13 * k + 3) = 1 then upd (upd S1 6 (S 6 + 1)) (166 + 13 * k + 7) (S (166 + 13 * k + 7) + 1) else upd (upd S1 (166 + 13 * k + 3) 1) (166 + 13 * k + 10) (S 0)
theorem posF_le {f : Nat → Int32} {x : Int32} : ∀ n, posF f x n ≤ n
  | 0 => Nat.le_refl _
  | n + 1 => by
    unfold posF
    split
    · omega
    · split <;> omega
theorem posF_no {f : Nat → Int32} {x : Int32} : ∀ n i, i < posF f x n → f i ≠ x
  | 0, i, h => absurd h (Nat.not_lt_zero i)
  | n + 1, i, h => by
    have ih := posF_no (f := f) (x := x) n
    have hle := posF_le (f := f) (x := x) n
    unfold posF at h
    split at h
    · exact ih i h
    · split at h
      · exact ih i (by omega)
      · rename_i h2
        by_cases e : i = n
        · subst e; exact h2
        · exact ih i (by omega)
theorem posF_yes {f : Nat → Int32} {x : Int32} : ∀ n, posF f x n < n → f (posF f x n) = x
  | 0, h => absurd h (Nat.not_lt_zero _)
  | n + 1, h => by
    have ih := posF_yes (f := f) (x := x) n
    have hle := posF_le (f := f) (x := x) n
    unfold posF at h ⊢
    split at h
    · rename_i h1
      rw [if_pos h1]
      exact ih h1
    · rename_i h1
      rw [if_neg h1]
      split at h
      · rename_i h2
        rw [if_pos h2]; exact h2
      · omega
theorem posF_lt {f : Nat → Int32} {x : Int32} : ∀ n i, i < n → f i = x → posF f x n ≤ i
  | 0, i, h, _ => absurd h (Nat.not_lt_zero i)
  | n + 1, i, h, e => by
    have ih := posF_lt (f := f) (x := x) n
    unfold posF
    split
    · rename_i h1
      by_cases q : i = n
      · omega
      · exact ih i (by omega) e
    · rename_i h1
      by_cases q : i = n
      · subst q
        rw [if_pos e]
        omega
      · have := ih i (by omega) e
        omega
/-- alike outside the nodes' inputs -/
def Agr (S S' : Nat → Int32) : Prop := ∀ k, (∀ j, j < 6 → k < 16 + 25 * j + 4 ∨ 16 + 25 * j + 25 ≤ k) → S' k = S k
theorem Agr.rf {S : Nat → Int32} : Agr S S := fun _ _ => rfl
theorem Agr.tr {S S1 S2 : Nat → Int32} (h1 : Agr S S1) (h2 : Agr S1 S2) : Agr S S2 := fun k hk => (h2 k hk).trans (h1 k hk)
theorem Agr.lo {S S' : Nat → Int32} (h : Agr S S') {k : Nat} (hk : k < 20) : S' k = S k := h k (fun j hj => by omega)
theorem Agr.nd {S S' : Nat → Int32} (h : Agr S S') {j c : Nat} (hc : c < 4) : S' (16 + 25 * j + c) = S (16 + 25 * j + c) := h _ (fun i hi => by omega)
theorem Agr.hi {S S' : Nat → Int32} (h : Agr S S') {k : Nat} (hk : 166 ≤ k) : S' k = S k := h k (fun j hj => by omega)
theorem Agr.on {S S' : Nat → Int32} (h : Agr S S') : onS S' = onS S := by
  funext j
  unfold onS vN
  rw [show S' (16 + 25 * j) = S (16 + 25 * j) from h.nd (c := 0) (by omega)]
theorem Agr.way {S S' : Nat → Int32} (h : Agr S S') (j : Nat) : wayS S' j = wayS S j := by
  unfold wayS
  rw [h.on]
theorem Agr.InvB {S S' : Nat → Int32} (h : Agr S S') (hI : InvB S) : InvB S' := by
  obtain ⟨a1, a2, a3, a4, a5, a6, a7, a8⟩ := hI
  have n0 : ∀ j, S' (16 + 25 * j) = S (16 + 25 * j) := fun j => h.nd (c := 0) (by omega)
  unfold CLampRanksLaw_law_r8651_c39e97.InvB vN
  rw [h.lo (k := 3) (by omega), h.lo (k := 4) (by omega), h.lo (k := 10) (by omega), h.lo (k := 0) (by omega), h.lo (k := 1) (by omega), h.lo (k := 2) (by omega), h.lo (k := 16) (by omega)]
  refine ⟨a1, a2, a3, fun j hj => ?_, ⟨a5.1, fun j h1 h2 => ?_⟩, fun k hk => ?_, fun i hi => ?_, a8⟩
  · rw [h.nd (c := 1) (by omega), h.nd (c := 2) (by omega), h.nd (c := 3) (by omega)]; exact a4 j hj
  · rw [n0]; exact a5.2 j h1 h2
  · rw [h.hi (k := 166 + 13 * k) (by omega), h.hi (k := 166 + 13 * k + 1) (by omega), h.hi (k := 166 + 13 * k + 2) (by omega), h.hi (k := 166 + 13 * k + 3) (by omega), h.hi (k := 166 + 13 * k + 4) (by omega), h.hi (k := 166 + 13 * k + 5) (by omega)]; exact a6 k hk
  · have : i < 4 := Nat.lt_of_lt_of_le hi a3.2
    rw [h.lo (k := 11 + i) (by omega)]; exact a7 i hi
theorem turnB_agr {S : Nat → Int32} {j : Nat} {x : Int32} (hj : j < 6) (hn : vN S (16 + 25 * j + 3) ≤ 21) (hp : posF (fun i => S (16 + 25 * j + 4 + i)) x (vN S (16 + 25 * j + 3)) < vN S (16 + 25 * j + 3)) : Agr S (turnB S j x) := by
  intro k hk
  have := hk j hj
  unfold turnB rotS
  rw [upd_n (by omega)]
  rcases this with h | h
  · rw [cpy_lo (by omega)]
  · rw [cpy_hi (by omega)]
/-- each turn finds its entry -/
def turnOK : List Nat → (Nat → Int32) → Int32 → Prop
  | [], _, _ => True
  | j :: w, S, x => (S (16 + 25 * j + 1) = 1 → posF (fun i => S (16 + 25 * j + 4 + i)) x (vN S (16 + 25 * j + 3)) < vN S (16 + 25 * j + 3)) ∧ turnOK w (if S (16 + 25 * j + 1) = 1 then turnB S j x else S) (nI (100 + j))
end
section
/-! the reference: small methods, what is read -/
section MOD1
variable {n base m : Nat} {sh : pw_Sh} {P : pw_P} {Ag : List Value} {I : pw_I} {K : Option Value → pw_I → Prop}
def w_in : pw_Wp := fun Ag I K => match Ag with
  | [.int v, .int lo, .int hi] => (lo ≤ v ∧ v ≤ hi → K (some (.int 1)) I) ∧ (¬ (lo ≤ v ∧ v ≤ hi) → K (some (.int 0)) I)
  | _ => False
set_option maxRecDepth 100000 in
set_option maxHeartbeats 4000000 in
theorem x_in (h : w_in Ag I K) : pw_ok mX7_in 0 base n sh P Ag I K := by
  unfold w_in at h
  split at h
  · obtain ⟨hA, hB⟩ := h
    refine pw_bd [_, _, _] pl_X7 c_iii rfl rfl ?_
    refine pw_go okX7_in (cc []) ⟨Nat.le_refl _, Nat.le_refl _⟩ cc_n (st0) 30 ?_
    simp only [vc_s, vq_s, vk_s, e_iconst, e_bipush, e_sipush, e_ldc, e_ldc_w, e_iload_n, e_iload, e_aload_n, e_aload, e_istore_n, e_istore, e_astore_n, e_astore, e_iinc, e_iadd, e_isub, e_imul, e_iand, e_ior, e_ixor, e_idiv, e_irem, e_ishl, e_ishr, e_iushr, e_i2c, e_dup, e_dup2, e_pop, e_goto, e_ifCond, e_if_icmp, e_tableswitch, e_lookupswitch, e_getfield_i, e_getfield_r, e_putfield_i, e_putfield_z, e_iaload, e_caload, e_aaload, e_iastore, e_castore, e_arraylength, e_invokestatic, e_invokevirtual, e_ireturn, e_return_, s_i_c, s_r_c, s_v_i, s_v_r, s_l_0, s_l_1, s_l_2, s_l_3, s_l_4, s_l_5, s_l_6, s_a_0, s_a_1, s_a_2, s_a_3, s_m_0, s_m_i, s_m_r, s_m_i7, s_m_r7, s_m_i6, s_m_r6, s_m_i5, s_m_r5, s_m_i4, s_m_r4, s_w_n, s_w_c, s_p_eq, s_p_ne, s_p_lt, s_p_ge, s_p_gt, s_p_le, nk_i, nk_z, nk_c, rf_s, ov_s, ov_n, fin0, fin1, fin2, fin3, cond_true, cond_false, List.set_cons_zero, List.set_cons_succ, List.length_cons, List.length_nil, true_and, and_true, true_or, or_true, implies_true, forall_const, not_true_eq_false, not_false_eq_true, false_implies, Nat.reduceAdd, Nat.reduceLT, Nat.reduceBEq, Nat.reduceEqDiff, Bool.or_false, Bool.false_or, Bool.or_true, Bool.true_or, beq_self_eq_true, Nat.reduceLeDiff, Nat.reduceMul, Nat.reduceSub, eq_self, Nat.reduceBneDiff, st0_s, st1_s, st2_s, st3_s, reduceCtorEq, cc_s, cc_0, tl_0, cl_0, il_0, tl_1, cl_1, il_1, tl_2, cl_2, il_2, tl_3, cl_3, il_3, tl_4, cl_4, il_4, tl_5, cl_5, il_5, tl_6, cl_6, il_6, tl_7, cl_7, il_7, tl_8, cl_8, il_8, tl_9, cl_9, il_9, tl_10, cl_10, il_10, tl_11, cl_11, il_11, tl_12, cl_12, il_12, tl_13, cl_13, il_13, tl_14, cl_14, il_14, tl_15, cl_15, il_15, tl_16, cl_16, il_16, tl_20, tl_21, tl_25, tl_32, tl_48, tl_50, tl_57, tl_58, tl_59, tl_60, tl_99, tl_100, tl_101, tl_108, tl_109, tl_116, tl_120, tl_126, tl_374, tl_1122, tl_50000, i10, i01, tl_m1, tl_m2, tl_m3, tl_m4, nr_X7_in, tX7_in_0, tX7_in_1, tX7_in_2, tX7_in_5, tX7_in_6, tX7_in_7, tX7_in_10, tX7_in_11, tX7_in_14, tX7_in_15, pw_QK_s]
    simp only [ti_lt, ti_le] at *
    refine ⟨fun q => hB (by omega), fun q => ⟨fun q2 => hB (by omega), fun q2 => hA (by omega)⟩⟩
  · exact h.elim
def w_n : pw_Wp := fun Ag I K => match Ag with
  | [.int x] => K (some (.int (16 + 25 * x))) I
  | _ => False
set_option maxRecDepth 100000 in
set_option maxHeartbeats 4000000 in
theorem x_n (h : w_n Ag I K) : pw_ok mX7_n 0 base n sh P Ag I K := by
  unfold w_n at h
  split at h
  · refine pw_bd [_] pl_X7 c_i rfl rfl ?_
    refine pw_go okX7_n (cc []) ⟨Nat.le_refl _, Nat.le_refl _⟩ cc_n (st0) 30 ?_
    simp only [vc_s, vq_s, vk_s, e_iconst, e_bipush, e_sipush, e_ldc, e_ldc_w, e_iload_n, e_iload, e_aload_n, e_aload, e_istore_n, e_istore, e_astore_n, e_astore, e_iinc, e_iadd, e_isub, e_imul, e_iand, e_ior, e_ixor, e_idiv, e_irem, e_ishl, e_ishr, e_iushr, e_i2c, e_dup, e_dup2, e_pop, e_goto, e_ifCond, e_if_icmp, e_tableswitch, e_lookupswitch, e_getfield_i, e_getfield_r, e_putfield_i, e_putfield_z, e_iaload, e_caload, e_aaload, e_iastore, e_castore, e_arraylength, e_invokestatic, e_invokevirtual, e_ireturn, e_return_, s_i_c, s_r_c, s_v_i, s_v_r, s_l_0, s_l_1, s_l_2, s_l_3, s_l_4, s_l_5, s_l_6, s_a_0, s_a_1, s_a_2, s_a_3, s_m_0, s_m_i, s_m_r, s_m_i7, s_m_r7, s_m_i6, s_m_r6, s_m_i5, s_m_r5, s_m_i4, s_m_r4, s_w_n, s_w_c, s_p_eq, s_p_ne, s_p_lt, s_p_ge, s_p_gt, s_p_le, nk_i, nk_z, nk_c, rf_s, ov_s, ov_n, fin0, fin1, fin2, fin3, cond_true, cond_false, List.set_cons_zero, List.set_cons_succ, List.length_cons, List.length_nil, true_and, and_true, true_or, or_true, implies_true, forall_const, not_true_eq_false, not_false_eq_true, false_implies, Nat.reduceAdd, Nat.reduceLT, Nat.reduceBEq, Nat.reduceEqDiff, Bool.or_false, Bool.false_or, Bool.or_true, Bool.true_or, beq_self_eq_true, Nat.reduceLeDiff, Nat.reduceMul, Nat.reduceSub, eq_self, Nat.reduceBneDiff, st0_s, st1_s, st2_s, st3_s, reduceCtorEq, cc_s, cc_0, tl_0, cl_0, il_0, tl_1, cl_1, il_1, tl_2, cl_2, il_2, tl_3, cl_3, il_3, tl_4, cl_4, il_4, tl_5, cl_5, il_5, tl_6, cl_6, il_6, tl_7, cl_7, il_7, tl_8, cl_8, il_8, tl_9, cl_9, il_9, tl_10, cl_10, il_10, tl_11, cl_11, il_11, tl_12, cl_12, il_12, tl_13, cl_13, il_13, tl_14, cl_14, il_14, tl_15, cl_15, il_15, tl_16, cl_16, il_16, tl_20, tl_21, tl_25, tl_32, tl_48, tl_50, tl_57, tl_58, tl_59, tl_60, tl_99, tl_100, tl_101, tl_108, tl_109, tl_116, tl_120, tl_126, tl_374, tl_1122, tl_50000, i10, i01, tl_m1, tl_m2, tl_m3, tl_m4, nr_X7_n, tX7_n_0, tX7_n_2, tX7_n_4, tX7_n_5, tX7_n_6, tX7_n_7, pw_QK_s]
    exact h
  · exact h.elim
def w_l : pw_Wp := fun Ag I K => match Ag with
  | [.int x] => K (some (.int (166 + 13 * x))) I
  | _ => False
set_option maxRecDepth 100000 in
set_option maxHeartbeats 4000000 in
theorem x_l (h : w_l Ag I K) : pw_ok mX7_l 0 base n sh P Ag I K := by
  unfold w_l at h
  split at h
  · refine pw_bd [_] pl_X7 c_i rfl rfl ?_
    refine pw_go okX7_l (cc []) ⟨Nat.le_refl _, Nat.le_refl _⟩ cc_n (st0) 30 ?_
    simp only [vc_s, vq_s, vk_s, e_iconst, e_bipush, e_sipush, e_ldc, e_ldc_w, e_iload_n, e_iload, e_aload_n, e_aload, e_istore_n, e_istore, e_astore_n, e_astore, e_iinc, e_iadd, e_isub, e_imul, e_iand, e_ior, e_ixor, e_idiv, e_irem, e_ishl, e_ishr, e_iushr, e_i2c, e_dup, e_dup2, e_pop, e_goto, e_ifCond, e_if_icmp, e_tableswitch, e_lookupswitch, e_getfield_i, e_getfield_r, e_putfield_i, e_putfield_z, e_iaload, e_caload, e_aaload, e_iastore, e_castore, e_arraylength, e_invokestatic, e_invokevirtual, e_ireturn, e_return_, s_i_c, s_r_c, s_v_i, s_v_r, s_l_0, s_l_1, s_l_2, s_l_3, s_l_4, s_l_5, s_l_6, s_a_0, s_a_1, s_a_2, s_a_3, s_m_0, s_m_i, s_m_r, s_m_i7, s_m_r7, s_m_i6, s_m_r6, s_m_i5, s_m_r5, s_m_i4, s_m_r4, s_w_n, s_w_c, s_p_eq, s_p_ne, s_p_lt, s_p_ge, s_p_gt, s_p_le, nk_i, nk_z, nk_c, rf_s, ov_s, ov_n, fin0, fin1, fin2, fin3, cond_true, cond_false, List.set_cons_zero, List.set_cons_succ, List.length_cons, List.length_nil, true_and, and_true, true_or, or_true, implies_true, forall_const, not_true_eq_false, not_false_eq_true, false_implies, Nat.reduceAdd, Nat.reduceLT, Nat.reduceBEq, Nat.reduceEqDiff, Bool.or_false, Bool.false_or, Bool.or_true, Bool.true_or, beq_self_eq_true, Nat.reduceLeDiff, Nat.reduceMul, Nat.reduceSub, eq_self, Nat.reduceBneDiff, st0_s, st1_s, st2_s, st3_s, reduceCtorEq, cc_s, cc_0, tl_0, cl_0, il_0, tl_1, cl_1, il_1, tl_2, cl_2, il_2, tl_3, cl_3, il_3, tl_4, cl_4, il_4, tl_5, cl_5, il_5, tl_6, cl_6, il_6, tl_7, cl_7, il_7, tl_8, cl_8, il_8, tl_9, cl_9, il_9, tl_10, cl_10, il_10, tl_11, cl_11, il_11, tl_12, cl_12, il_12, tl_13, cl_13, il_13, tl_14, cl_14, il_14, tl_15, cl_15, il_15, tl_16, cl_16, il_16, tl_20, tl_21, tl_25, tl_32, tl_48, tl_50, tl_57, tl_58, tl_59, tl_60, tl_99, tl_100, tl_101, tl_108, tl_109, tl_116, tl_120, tl_126, tl_374, tl_1122, tl_50000, i10, i01, tl_m1, tl_m2, tl_m3, tl_m4, nr_X7_l, tX7_l_0, tX7_l_3, tX7_l_5, tX7_l_6, tX7_l_7, tX7_l_8, pw_QK_s]
    exact h
  · exact h.elim
def w_bit : pw_Wp := fun Ag I K => match Ag with
  | [.int x] => (bit01 x → K (some (.int 1)) I) ∧ (¬ bit01 x → K (some (.int 0)) I)
  | _ => False
set_option maxRecDepth 100000 in
set_option maxHeartbeats 4000000 in
theorem x_isBit7 (h : w_bit Ag I K) : pw_ok mX7_isBit 0 base n sh P Ag I K := by
  unfold w_bit at h
  split at h
  · obtain ⟨hA, hB⟩ := h
    refine pw_bd [_] pl_X7 c_i rfl rfl ?_
    refine pw_go okX7_isBit (cc []) ⟨Nat.le_refl _, Nat.le_refl _⟩ cc_n (st0) 30 ?_
    simp only [vc_s, vq_s, vk_s, e_iconst, e_bipush, e_sipush, e_ldc, e_ldc_w, e_iload_n, e_iload, e_aload_n, e_aload, e_istore_n, e_istore, e_astore_n, e_astore, e_iinc, e_iadd, e_isub, e_imul, e_iand, e_ior, e_ixor, e_idiv, e_irem, e_ishl, e_ishr, e_iushr, e_i2c, e_dup, e_dup2, e_pop, e_goto, e_ifCond, e_if_icmp, e_tableswitch, e_lookupswitch, e_getfield_i, e_getfield_r, e_putfield_i, e_putfield_z, e_iaload, e_caload, e_aaload, e_iastore, e_castore, e_arraylength, e_invokestatic, e_invokevirtual, e_ireturn, e_return_, s_i_c, s_r_c, s_v_i, s_v_r, s_l_0, s_l_1, s_l_2, s_l_3, s_l_4, s_l_5, s_l_6, s_a_0, s_a_1, s_a_2, s_a_3, s_m_0, s_m_i, s_m_r, s_m_i7, s_m_r7, s_m_i6, s_m_r6, s_m_i5, s_m_r5, s_m_i4, s_m_r4, s_w_n, s_w_c, s_p_eq, s_p_ne, s_p_lt, s_p_ge, s_p_gt, s_p_le, nk_i, nk_z, nk_c, rf_s, ov_s, ov_n, fin0, fin1, fin2, fin3, cond_true, cond_false, List.set_cons_zero, List.set_cons_succ, List.length_cons, List.length_nil, true_and, and_true, true_or, or_true, implies_true, forall_const, not_true_eq_false, not_false_eq_true, false_implies, Nat.reduceAdd, Nat.reduceLT, Nat.reduceBEq, Nat.reduceEqDiff, Bool.or_false, Bool.false_or, Bool.or_true, Bool.true_or, beq_self_eq_true, Nat.reduceLeDiff, Nat.reduceMul, Nat.reduceSub, eq_self, Nat.reduceBneDiff, st0_s, st1_s, st2_s, st3_s, reduceCtorEq, cc_s, cc_0, tl_0, cl_0, il_0, tl_1, cl_1, il_1, tl_2, cl_2, il_2, tl_3, cl_3, il_3, tl_4, cl_4, il_4, tl_5, cl_5, il_5, tl_6, cl_6, il_6, tl_7, cl_7, il_7, tl_8, cl_8, il_8, tl_9, cl_9, il_9, tl_10, cl_10, il_10, tl_11, cl_11, il_11, tl_12, cl_12, il_12, tl_13, cl_13, il_13, tl_14, cl_14, il_14, tl_15, cl_15, il_15, tl_16, cl_16, il_16, tl_20, tl_21, tl_25, tl_32, tl_48, tl_50, tl_57, tl_58, tl_59, tl_60, tl_99, tl_100, tl_101, tl_108, tl_109, tl_116, tl_120, tl_126, tl_374, tl_1122, tl_50000, i10, i01, tl_m1, tl_m2, tl_m3, tl_m4, nr_X7_isBit, tX7_isBit_0, tX7_isBit_1, tX7_isBit_4, tX7_isBit_5, tX7_isBit_6, tX7_isBit_9, tX7_isBit_10, tX7_isBit_13, tX7_isBit_14, pw_QK_s]
    refine ⟨fun q => hA (Or.inl q), fun q => ⟨fun q2 => hB (fun z => z.elim q q2), fun q2 => hA (Or.inr q2)⟩⟩
  · exact h.elim
def w_isNode (m : Nat) : pw_Wp := fun Ag I K => match Ag with
  | [.ref o, .int x] => o = m ∧ (1 ≤ (I (m + 1) 3).toInt ∧ (I (m + 1) 3).toInt ≤ 6) ∧ (0 ≤ x.toInt ∧ x.toInt < (I (m + 1) 3).toInt → K (some (.int 1)) I) ∧ (¬ (0 ≤ x.toInt ∧ x.toInt < (I (m + 1) 3).toInt) → K (some (.int 0)) I)
  | _ => False
set_option maxRecDepth 100000 in
set_option maxHeartbeats 4000000 in
theorem x_isNode (hM : pw_mod sh P m) (h : w_isNode m Ag I K) : pw_ok mX7_isNode 1 base n sh P Ag I K := by
  unfold w_isNode at h
  split at h
  · obtain ⟨rfl, h0, hA, hB⟩ := h
    obtain ⟨h1, ⟨h2, h3⟩, -⟩ := hM
    refine pw_bd [_, _] pl_X7 c_ri rfl rfl ?_
    refine pw_go okX7_isNode (cc [(94, w_in)]) ⟨Nat.le_refl _, Nat.le_refl _⟩ (cc_c (fun Ag I K h => ⟨0, Nat.le_of_ble_eq_true rfl, x_in h⟩) cc_n) (st0) 30 ?_
    simp only [vc_s, vq_s, vk_s, e_iconst, e_bipush, e_sipush, e_ldc, e_ldc_w, e_iload_n, e_iload, e_aload_n, e_aload, e_istore_n, e_istore, e_astore_n, e_astore, e_iinc, e_iadd, e_isub, e_imul, e_iand, e_ior, e_ixor, e_idiv, e_irem, e_ishl, e_ishr, e_iushr, e_i2c, e_dup, e_dup2, e_pop, e_goto, e_ifCond, e_if_icmp, e_tableswitch, e_lookupswitch, e_getfield_i, e_getfield_r, e_putfield_i, e_putfield_z, e_iaload, e_caload, e_aaload, e_iastore, e_castore, e_arraylength, e_invokestatic, e_invokevirtual, e_ireturn, e_return_, s_i_c, s_r_c, s_v_i, s_v_r, s_l_0, s_l_1, s_l_2, s_l_3, s_l_4, s_l_5, s_l_6, s_a_0, s_a_1, s_a_2, s_a_3, s_m_0, s_m_i, s_m_r, s_m_i7, s_m_r7, s_m_i6, s_m_r6, s_m_i5, s_m_r5, s_m_i4, s_m_r4, s_w_n, s_w_c, s_p_eq, s_p_ne, s_p_lt, s_p_ge, s_p_gt, s_p_le, nk_i, nk_z, nk_c, rf_s, ov_s, ov_n, fin0, fin1, fin2, fin3, cond_true, cond_false, List.set_cons_zero, List.set_cons_succ, List.length_cons, List.length_nil, true_and, and_true, true_or, or_true, implies_true, forall_const, not_true_eq_false, not_false_eq_true, false_implies, Nat.reduceAdd, Nat.reduceLT, Nat.reduceBEq, Nat.reduceEqDiff, Bool.or_false, Bool.false_or, Bool.or_true, Bool.true_or, beq_self_eq_true, Nat.reduceLeDiff, Nat.reduceMul, Nat.reduceSub, eq_self, Nat.reduceBneDiff, st0_s, st1_s, st2_s, st3_s, reduceCtorEq, cc_s, cc_0, tl_0, cl_0, il_0, tl_1, cl_1, il_1, tl_2, cl_2, il_2, tl_3, cl_3, il_3, tl_4, cl_4, il_4, tl_5, cl_5, il_5, tl_6, cl_6, il_6, tl_7, cl_7, il_7, tl_8, cl_8, il_8, tl_9, cl_9, il_9, tl_10, cl_10, il_10, tl_11, cl_11, il_11, tl_12, cl_12, il_12, tl_13, cl_13, il_13, tl_14, cl_14, il_14, tl_15, cl_15, il_15, tl_16, cl_16, il_16, tl_20, tl_21, tl_25, tl_32, tl_48, tl_50, tl_57, tl_58, tl_59, tl_60, tl_99, tl_100, tl_101, tl_108, tl_109, tl_116, tl_120, tl_126, tl_374, tl_1122, tl_50000, i10, i01, tl_m1, tl_m2, tl_m3, tl_m4, nr_X7_isNode, tX7_isNode_0, tX7_isNode_1, tX7_isNode_2, tX7_isNode_3, tX7_isNode_6, tX7_isNode_7, tX7_isNode_8, tX7_isNode_9, tX7_isNode_10, tX7_isNode_13, pw_QK_s, w_in, h1, h2, h3, ti_le]
    rename_i o x
    have e : (I (o + 1) 3 - 1).toInt = (I (o + 1) 3).toInt - 1 := ti_sub (y := 1) (by show _ ≤ _ - 1; omega) (by show _ - 1 < _; omega)
    rw [e]
    exact ⟨fun q => hA (by omega), fun q => hB (by omega)⟩
  · exact h.elim
def w_isLine (m : Nat) : pw_Wp := fun Ag I K => match Ag with
  | [.ref o, .int x] => o = m ∧ (0 ≤ (I (m + 1) 4).toInt ∧ (I (m + 1) 4).toInt ≤ 16) ∧ (0 ≤ x.toInt ∧ x.toInt < (I (m + 1) 4).toInt → K (some (.int 1)) I) ∧ (¬ (0 ≤ x.toInt ∧ x.toInt < (I (m + 1) 4).toInt) → K (some (.int 0)) I)
  | _ => False
set_option maxRecDepth 100000 in
set_option maxHeartbeats 4000000 in
theorem x_isLine (hM : pw_mod sh P m) (h : w_isLine m Ag I K) : pw_ok mX7_isLine 1 base n sh P Ag I K := by
  unfold w_isLine at h
  split at h
  · obtain ⟨rfl, h0, hA, hB⟩ := h
    obtain ⟨h1, ⟨h2, h3⟩, -⟩ := hM
    refine pw_bd [_, _] pl_X7 c_ri rfl rfl ?_
    refine pw_go okX7_isLine (cc [(94, w_in)]) ⟨Nat.le_refl _, Nat.le_refl _⟩ (cc_c (fun Ag I K h => ⟨0, Nat.le_of_ble_eq_true rfl, x_in h⟩) cc_n) (st0) 30 ?_
    simp only [vc_s, vq_s, vk_s, e_iconst, e_bipush, e_sipush, e_ldc, e_ldc_w, e_iload_n, e_iload, e_aload_n, e_aload, e_istore_n, e_istore, e_astore_n, e_astore, e_iinc, e_iadd, e_isub, e_imul, e_iand, e_ior, e_ixor, e_idiv, e_irem, e_ishl, e_ishr, e_iushr, e_i2c, e_dup, e_dup2, e_pop, e_goto, e_ifCond, e_if_icmp, e_tableswitch, e_lookupswitch, e_getfield_i, e_getfield_r, e_putfield_i, e_putfield_z, e_iaload, e_caload, e_aaload, e_iastore, e_castore, e_arraylength, e_invokestatic, e_invokevirtual, e_ireturn, e_return_, s_i_c, s_r_c, s_v_i, s_v_r, s_l_0, s_l_1, s_l_2, s_l_3, s_l_4, s_l_5, s_l_6, s_a_0, s_a_1, s_a_2, s_a_3, s_m_0, s_m_i, s_m_r, s_m_i7, s_m_r7, s_m_i6, s_m_r6, s_m_i5, s_m_r5, s_m_i4, s_m_r4, s_w_n, s_w_c, s_p_eq, s_p_ne, s_p_lt, s_p_ge, s_p_gt, s_p_le, nk_i, nk_z, nk_c, rf_s, ov_s, ov_n, fin0, fin1, fin2, fin3, cond_true, cond_false, List.set_cons_zero, List.set_cons_succ, List.length_cons, List.length_nil, true_and, and_true, true_or, or_true, implies_true, forall_const, not_true_eq_false, not_false_eq_true, false_implies, Nat.reduceAdd, Nat.reduceLT, Nat.reduceBEq, Nat.reduceEqDiff, Bool.or_false, Bool.false_or, Bool.or_true, Bool.true_or, beq_self_eq_true, Nat.reduceLeDiff, Nat.reduceMul, Nat.reduceSub, eq_self, Nat.reduceBneDiff, st0_s, st1_s, st2_s, st3_s, reduceCtorEq, cc_s, cc_0, tl_0, cl_0, il_0, tl_1, cl_1, il_1, tl_2, cl_2, il_2, tl_3, cl_3, il_3, tl_4, cl_4, il_4, tl_5, cl_5, il_5, tl_6, cl_6, il_6, tl_7, cl_7, il_7, tl_8, cl_8, il_8, tl_9, cl_9, il_9, tl_10, cl_10, il_10, tl_11, cl_11, il_11, tl_12, cl_12, il_12, tl_13, cl_13, il_13, tl_14, cl_14, il_14, tl_15, cl_15, il_15, tl_16, cl_16, il_16, tl_20, tl_21, tl_25, tl_32, tl_48, tl_50, tl_57, tl_58, tl_59, tl_60, tl_99, tl_100, tl_101, tl_108, tl_109, tl_116, tl_120, tl_126, tl_374, tl_1122, tl_50000, i10, i01, tl_m1, tl_m2, tl_m3, tl_m4, nr_X7_isLine, tX7_isLine_0, tX7_isLine_1, tX7_isLine_2, tX7_isLine_3, tX7_isLine_6, tX7_isLine_7, tX7_isLine_8, tX7_isLine_9, tX7_isLine_10, tX7_isLine_13, pw_QK_s, w_in, h1, h2, h3, ti_le]
    rename_i o x
    have e : (I (o + 1) 4 - 1).toInt = (I (o + 1) 4).toInt - 1 := ti_sub (y := 1) (by show _ ≤ _ - 1; omega) (by show _ - 1 < _; omega)
    rw [e]
    exact ⟨fun q => hA (by omega), fun q => hB (by omega)⟩
  · exact h.elim
def S_hid (S : Nat → Int32) (j : Nat) : Bool := S (16 + 25 * j + 2) == 1
/-- masked, itself or by a node on its way -/
def w_isHidden (m : Nat) : pw_Wp := fun Ag I K => match Ag with
  | [.ref o, .int x] => o = m ∧ InvB (I (m + 1)) ∧ (0 ≤ x.toInt ∧ x.toInt < 16) ∧ (hidS (I (m + 1)) x.toNatClampNeg = true → K (some (.int 1)) I) ∧ (hidS (I (m + 1)) x.toNatClampNeg = false → K (some (.int 0)) I)
  | _ => False
set_option maxRecDepth 100000 in
set_option maxHeartbeats 4000000 in
theorem x_isHidden (hM : pw_mod sh P m) (h : w_isHidden m Ag I K) : pw_ok mX7_isHidden 1 base n sh P Ag I K := by
  unfold w_isHidden at h
  split at h
  · rename_i o x
    obtain ⟨rfl, hI, hx, hA, hB⟩ := h
    obtain ⟨h1, ⟨h2, h3⟩, -⟩ := hM
    obtain ⟨k, rfl, hk⟩ : ∃ k : Nat, x = nI k ∧ k < 16 := ⟨x.toNatClampNeg, ti_nat hx.1, by have := (show x.toNatClampNeg = x.toInt.toNat from rfl); omega⟩
    rw [cl_nI (by omega)] at hA hB
    refine pw_bd [_, _, _, _] pl_X7 c_ri rfl rfl ?_
    have loop : ∀ (f j : Nat) (is : Int32) (L0 : Int32), j < 6 → j < f → bit01 is → (is = 1 ∨ hidW (I (o + 1)) (wayS (I (o + 1)) j) = true → K (some (.int 1)) I) → (is = 0 ∧ hidW (I (o + 1)) (wayS (I (o + 1)) j) = false → K (some (.int 0)) I) →
        PW (mX7_isHidden, 1, 0, 0, none, base) n sh P I 0 0 33 [some (.ref o), some (.int L0), some (.int is), some (.int (nI j))] [] (pw_QK n sh P K) := by
      intro f
      induction f with
      | zero => intro j is L0 h1 h2; omega
      | succ f ih =>
        intro j is L0 hj hf his hT hF
        refine pw_go okX7_isHidden (cc [(98, w_n)]) ⟨Nat.le_refl _, Nat.le_refl _⟩ (cc_c (fun Ag I K h => ⟨0, Nat.le_of_ble_eq_true rfl, x_n h⟩) cc_n) (st1 33) 60 ?_
        simp only [vc_s, vq_s, vk_s, e_iconst, e_bipush, e_sipush, e_ldc, e_ldc_w, e_iload_n, e_iload, e_aload_n, e_aload, e_istore_n, e_istore, e_astore_n, e_astore, e_iinc, e_iadd, e_isub, e_imul, e_iand, e_ior, e_ixor, e_idiv, e_irem, e_ishl, e_ishr, e_iushr, e_i2c, e_dup, e_dup2, e_pop, e_goto, e_ifCond, e_if_icmp, e_tableswitch, e_lookupswitch, e_getfield_i, e_getfield_r, e_putfield_i, e_putfield_z, e_iaload, e_caload, e_aaload, e_iastore, e_castore, e_arraylength, e_invokestatic, e_invokevirtual, e_ireturn, e_return_, s_i_c, s_r_c, s_v_i, s_v_r, s_l_0, s_l_1, s_l_2, s_l_3, s_l_4, s_l_5, s_l_6, s_a_0, s_a_1, s_a_2, s_a_3, s_m_0, s_m_i, s_m_r, s_m_i7, s_m_r7, s_m_i6, s_m_r6, s_m_i5, s_m_r5, s_m_i4, s_m_r4, s_w_n, s_w_c, s_p_eq, s_p_ne, s_p_lt, s_p_ge, s_p_gt, s_p_le, nk_i, nk_z, nk_c, rf_s, ov_s, ov_n, fin0, fin1, fin2, fin3, cond_true, cond_false, List.set_cons_zero, List.set_cons_succ, List.length_cons, List.length_nil, true_and, and_true, true_or, or_true, implies_true, forall_const, not_true_eq_false, not_false_eq_true, false_implies, Nat.reduceAdd, Nat.reduceLT, Nat.reduceBEq, Nat.reduceEqDiff, Bool.or_false, Bool.false_or, Bool.or_true, Bool.true_or, beq_self_eq_true, Nat.reduceLeDiff, Nat.reduceMul, Nat.reduceSub, eq_self, Nat.reduceBneDiff, st0_s, st1_s, st2_s, st3_s, reduceCtorEq, cc_s, cc_0, tl_0, cl_0, il_0, tl_1, cl_1, il_1, tl_2, cl_2, il_2, tl_3, cl_3, il_3, tl_4, cl_4, il_4, tl_5, cl_5, il_5, tl_6, cl_6, il_6, tl_7, cl_7, il_7, tl_8, cl_8, il_8, tl_9, cl_9, il_9, tl_10, cl_10, il_10, tl_11, cl_11, il_11, tl_12, cl_12, il_12, tl_13, cl_13, il_13, tl_14, cl_14, il_14, tl_15, cl_15, il_15, tl_16, cl_16, il_16, tl_20, tl_21, tl_25, tl_32, tl_48, tl_50, tl_57, tl_58, tl_59, tl_60, tl_99, tl_100, tl_101, tl_108, tl_109, tl_116, tl_120, tl_126, tl_374, tl_1122, tl_50000, i10, i01, tl_m1, tl_m2, tl_m3, tl_m4, nr_X7_isHidden, tX7_isHidden_0, tX7_isHidden_1, tX7_isHidden_4, tX7_isHidden_5, tX7_isHidden_8, tX7_isHidden_9, tX7_isHidden_10, tX7_isHidden_11, tX7_isHidden_12, tX7_isHidden_15, tX7_isHidden_16, tX7_isHidden_19, tX7_isHidden_20, tX7_isHidden_21, tX7_isHidden_22, tX7_isHidden_25, tX7_isHidden_26, tX7_isHidden_29, tX7_isHidden_30, tX7_isHidden_31, tX7_isHidden_32, tX7_isHidden_33, tX7_isHidden_34, tX7_isHidden_37, tX7_isHidden_38, tX7_isHidden_39, tX7_isHidden_42, tX7_isHidden_43, tX7_isHidden_46, tX7_isHidden_47, tX7_isHidden_48, tX7_isHidden_49, tX7_isHidden_50, tX7_isHidden_53, tX7_isHidden_54, tX7_isHidden_57, tX7_isHidden_58, tX7_isHidden_59, tX7_isHidden_60, tX7_isHidden_61, tX7_isHidden_64, tX7_isHidden_65, tX7_isHidden_68, tX7_isHidden_69, tX7_isHidden_70, tX7_isHidden_71, tX7_isHidden_72, tX7_isHidden_75, tX7_isHidden_76, pw_QK_s, w_n, h1, h2, h3]
        simp (disch := omega) only [ix_l, ix_n, ix_0, ix_1, ix_2, ix_3, ix_4, ix_5, ix_6, ix_7, ix_8, ix_9, ix_10, ix_11, ix_12, ix_13, ix_14, ix_15, ix_20, ix_100, ix_374, jx_100, jx_11, jx_374, kx_374, cl_nI, in_nI, Nat.add_zero, true_and, nI_pos, false_implies, not_false_eq_true, forall_const]
        have hbit := (hI.2.2.2.1 j hj).2.1
        have hnext : ∀ is' : Int32, bit01 is' → (is' = 1 ↔ (is = 1 ∨ S_hid (I (o + 1)) j = true)) → PW (mX7_isHidden, 1, 0, 0, none, base) n sh P I 0 0 33 [some (.ref o), some (.int L0), some (.int is'), some (.int (I (o + 1) (16 + 25 * j)))] [] (pw_QK n sh P K) := by
          intro is' hb' he
          by_cases hj0 : j = 0
          · subst hj0
            rw [show I (o + 1) (16 + 25 * 0) = -1 from hI.2.2.2.2.1.1]
            refine pw_go okX7_isHidden (cc [(98, w_n)]) ⟨Nat.le_refl _, Nat.le_refl _⟩ (cc_c (fun Ag I K h => ⟨0, Nat.le_of_ble_eq_true rfl, x_n h⟩) cc_n) (st1 33) 60 ?_
            simp only [vc_s, vq_s, vk_s, e_iconst, e_bipush, e_sipush, e_ldc, e_ldc_w, e_iload_n, e_iload, e_aload_n, e_aload, e_istore_n, e_istore, e_astore_n, e_astore, e_iinc, e_iadd, e_isub, e_imul, e_iand, e_ior, e_ixor, e_idiv, e_irem, e_ishl, e_ishr, e_iushr, e_i2c, e_dup, e_dup2, e_pop, e_goto, e_ifCond, e_if_icmp, e_tableswitch, e_lookupswitch, e_getfield_i, e_getfield_r, e_putfield_i, e_putfield_z, e_iaload, e_caload, e_aaload, e_iastore, e_castore, e_arraylength, e_invokestatic, e_invokevirtual, e_ireturn, e_return_, s_i_c, s_r_c, s_v_i, s_v_r, s_l_0, s_l_1, s_l_2, s_l_3, s_l_4, s_l_5, s_l_6, s_a_0, s_a_1, s_a_2, s_a_3, s_m_0, s_m_i, s_m_r, s_m_i7, s_m_r7, s_m_i6, s_m_r6, s_m_i5, s_m_r5, s_m_i4, s_m_r4, s_w_n, s_w_c, s_p_eq, s_p_ne, s_p_lt, s_p_ge, s_p_gt, s_p_le, nk_i, nk_z, nk_c, rf_s, ov_s, ov_n, fin0, fin1, fin2, fin3, cond_true, cond_false, List.set_cons_zero, List.set_cons_succ, List.length_cons, List.length_nil, true_and, and_true, true_or, or_true, implies_true, forall_const, not_true_eq_false, not_false_eq_true, false_implies, Nat.reduceAdd, Nat.reduceLT, Nat.reduceBEq, Nat.reduceEqDiff, Bool.or_false, Bool.false_or, Bool.or_true, Bool.true_or, beq_self_eq_true, Nat.reduceLeDiff, Nat.reduceMul, Nat.reduceSub, eq_self, Nat.reduceBneDiff, st0_s, st1_s, st2_s, st3_s, reduceCtorEq, cc_s, cc_0, tl_0, cl_0, il_0, tl_1, cl_1, il_1, tl_2, cl_2, il_2, tl_3, cl_3, il_3, tl_4, cl_4, il_4, tl_5, cl_5, il_5, tl_6, cl_6, il_6, tl_7, cl_7, il_7, tl_8, cl_8, il_8, tl_9, cl_9, il_9, tl_10, cl_10, il_10, tl_11, cl_11, il_11, tl_12, cl_12, il_12, tl_13, cl_13, il_13, tl_14, cl_14, il_14, tl_15, cl_15, il_15, tl_16, cl_16, il_16, tl_20, tl_21, tl_25, tl_32, tl_48, tl_50, tl_57, tl_58, tl_59, tl_60, tl_99, tl_100, tl_101, tl_108, tl_109, tl_116, tl_120, tl_126, tl_374, tl_1122, tl_50000, i10, i01, tl_m1, tl_m2, tl_m3, tl_m4, nr_X7_isHidden, tX7_isHidden_0, tX7_isHidden_1, tX7_isHidden_4, tX7_isHidden_5, tX7_isHidden_8, tX7_isHidden_9, tX7_isHidden_10, tX7_isHidden_11, tX7_isHidden_12, tX7_isHidden_15, tX7_isHidden_16, tX7_isHidden_19, tX7_isHidden_20, tX7_isHidden_21, tX7_isHidden_22, tX7_isHidden_25, tX7_isHidden_26, tX7_isHidden_29, tX7_isHidden_30, tX7_isHidden_31, tX7_isHidden_32, tX7_isHidden_33, tX7_isHidden_34, tX7_isHidden_37, tX7_isHidden_38, tX7_isHidden_39, tX7_isHidden_42, tX7_isHidden_43, tX7_isHidden_46, tX7_isHidden_47, tX7_isHidden_48, tX7_isHidden_49, tX7_isHidden_50, tX7_isHidden_53, tX7_isHidden_54, tX7_isHidden_57, tX7_isHidden_58, tX7_isHidden_59, tX7_isHidden_60, tX7_isHidden_61, tX7_isHidden_64, tX7_isHidden_65, tX7_isHidden_68, tX7_isHidden_69, tX7_isHidden_70, tX7_isHidden_71, tX7_isHidden_72, tX7_isHidden_75, tX7_isHidden_76, pw_QK_s, w_n, h1, h2, h3]
            rw [wayS_0] at hT hF
            refine ⟨fun _ => ⟨hb', ?_⟩, fun q => absurd (by decide) q⟩
            rcases hb' with rfl | rfl
            · refine hF ⟨?_, ?_⟩
              · rcases his with q | q
                · exact q
                · exact absurd (he.mpr (Or.inl q)) (by decide)
              · cases q : hidW (I (o + 1)) [0] with
                | false => rfl
                | true => exact absurd (he.mpr (Or.inr (by simpa [hidW, S_hid] using q))) (by decide)
            · refine hT ?_
              rcases he.mp rfl with q | q
              · exact Or.inl q
              · exact Or.inr (by simpa [hidW, S_hid] using q)
          · have hon := hI.2.2.2.2.1.2 j (by omega) hj
            rw [wayS_s hI (by omega) hj] at hT hF
            rw [hon.1]
            refine ih _ is' L0 (by omega) (by omega) hb' (fun q => hT ?_) (fun q => hF ?_)
            · rcases q with q | q
              · rcases he.mp q with q | q
                · exact Or.inl q
                · exact Or.inr (by simp only [hidW, List.any_cons, Bool.or_eq_true]; exact Or.inl q)
              · exact Or.inr (by simp only [hidW, List.any_cons, Bool.or_eq_true]; exact Or.inr q)
            · have n1 : ¬ (is = 1 ∨ S_hid (I (o + 1)) j = true) := fun z => absurd ((he.mpr z).symm.trans q.1) (by decide)
              refine ⟨?_, ?_⟩
              · rcases his with z | z
                · exact z
                · exact absurd (Or.inl z) n1
              · cases z : hidW (I (o + 1)) (j :: wayS (I (o + 1)) (onS (I (o + 1)) j)) with
                | false => rfl
                | true =>
                  simp only [hidW, List.any_cons, Bool.or_eq_true] at z
                  rcases z with z | z
                  · exact absurd (Or.inr z) n1
                  · exact absurd (z.symm.trans q.2) (by decide)
        refine ⟨fun q => hnext _ ?_ ?_, fun q => hnext _ ?_ ?_⟩
        · rw [Int32.or_zero]; exact his
        · rw [Int32.or_zero]
          exact ⟨Or.inl, fun z => z.elim id (fun z => absurd (by simpa [S_hid] using z) q)⟩
        · rcases his with rfl | rfl <;> exact Or.inr rfl
        · rcases his with rfl | rfl <;> exact ⟨fun _ => Or.inr (by simpa [S_hid] using q), fun _ => rfl⟩
    have hat := (hI.2.2.2.2.2.1 k hk).1
    have hnn := hI.1
    refine pw_go okX7_isHidden (cc [(99, w_l)]) ⟨Nat.le_refl _, Nat.le_refl _⟩ (cc_c (fun Ag I K h => ⟨0, Nat.le_of_ble_eq_true rfl, x_l h⟩) cc_n) (st1 33) 60 ?_
    simp only [vc_s, vq_s, vk_s, e_iconst, e_bipush, e_sipush, e_ldc, e_ldc_w, e_iload_n, e_iload, e_aload_n, e_aload, e_istore_n, e_istore, e_astore_n, e_astore, e_iinc, e_iadd, e_isub, e_imul, e_iand, e_ior, e_ixor, e_idiv, e_irem, e_ishl, e_ishr, e_iushr, e_i2c, e_dup, e_dup2, e_pop, e_goto, e_ifCond, e_if_icmp, e_tableswitch, e_lookupswitch, e_getfield_i, e_getfield_r, e_putfield_i, e_putfield_z, e_iaload, e_caload, e_aaload, e_iastore, e_castore, e_arraylength, e_invokestatic, e_invokevirtual, e_ireturn, e_return_, s_i_c, s_r_c, s_v_i, s_v_r, s_l_0, s_l_1, s_l_2, s_l_3, s_l_4, s_l_5, s_l_6, s_a_0, s_a_1, s_a_2, s_a_3, s_m_0, s_m_i, s_m_r, s_m_i7, s_m_r7, s_m_i6, s_m_r6, s_m_i5, s_m_r5, s_m_i4, s_m_r4, s_w_n, s_w_c, s_p_eq, s_p_ne, s_p_lt, s_p_ge, s_p_gt, s_p_le, nk_i, nk_z, nk_c, rf_s, ov_s, ov_n, fin0, fin1, fin2, fin3, cond_true, cond_false, List.set_cons_zero, List.set_cons_succ, List.length_cons, List.length_nil, true_and, and_true, true_or, or_true, implies_true, forall_const, not_true_eq_false, not_false_eq_true, false_implies, Nat.reduceAdd, Nat.reduceLT, Nat.reduceBEq, Nat.reduceEqDiff, Bool.or_false, Bool.false_or, Bool.or_true, Bool.true_or, beq_self_eq_true, Nat.reduceLeDiff, Nat.reduceMul, Nat.reduceSub, eq_self, Nat.reduceBneDiff, st0_s, st1_s, st2_s, st3_s, reduceCtorEq, cc_s, cc_0, tl_0, cl_0, il_0, tl_1, cl_1, il_1, tl_2, cl_2, il_2, tl_3, cl_3, il_3, tl_4, cl_4, il_4, tl_5, cl_5, il_5, tl_6, cl_6, il_6, tl_7, cl_7, il_7, tl_8, cl_8, il_8, tl_9, cl_9, il_9, tl_10, cl_10, il_10, tl_11, cl_11, il_11, tl_12, cl_12, il_12, tl_13, cl_13, il_13, tl_14, cl_14, il_14, tl_15, cl_15, il_15, tl_16, cl_16, il_16, tl_20, tl_21, tl_25, tl_32, tl_48, tl_50, tl_57, tl_58, tl_59, tl_60, tl_99, tl_100, tl_101, tl_108, tl_109, tl_116, tl_120, tl_126, tl_374, tl_1122, tl_50000, i10, i01, tl_m1, tl_m2, tl_m3, tl_m4, nr_X7_isHidden, tX7_isHidden_0, tX7_isHidden_1, tX7_isHidden_4, tX7_isHidden_5, tX7_isHidden_8, tX7_isHidden_9, tX7_isHidden_10, tX7_isHidden_11, tX7_isHidden_12, tX7_isHidden_15, tX7_isHidden_16, tX7_isHidden_19, tX7_isHidden_20, tX7_isHidden_21, tX7_isHidden_22, tX7_isHidden_25, tX7_isHidden_26, tX7_isHidden_29, tX7_isHidden_30, tX7_isHidden_31, tX7_isHidden_32, tX7_isHidden_33, tX7_isHidden_34, tX7_isHidden_37, tX7_isHidden_38, tX7_isHidden_39, tX7_isHidden_42, tX7_isHidden_43, tX7_isHidden_46, tX7_isHidden_47, tX7_isHidden_48, tX7_isHidden_49, tX7_isHidden_50, tX7_isHidden_53, tX7_isHidden_54, tX7_isHidden_57, tX7_isHidden_58, tX7_isHidden_59, tX7_isHidden_60, tX7_isHidden_61, tX7_isHidden_64, tX7_isHidden_65, tX7_isHidden_68, tX7_isHidden_69, tX7_isHidden_70, tX7_isHidden_71, tX7_isHidden_72, tX7_isHidden_75, tX7_isHidden_76, pw_QK_s, w_l, h1, h2, h3]
    simp (disch := omega) only [ix_l, ix_n, ix_0, ix_1, ix_2, ix_3, ix_4, ix_5, ix_6, ix_7, ix_8, ix_9, ix_10, ix_11, ix_12, ix_13, ix_14, ix_15, ix_20, ix_100, ix_374, jx_100, jx_11, jx_374, kx_374, cl_nI, in_nI, Nat.add_zero, true_and]
    rw [hat.1]
    refine ⟨fun q => loop 6 _ 0 _ (by omega) (by omega) (Or.inl rfl) (fun z => hA ?_) (fun z => hB ?_), fun q => loop 6 _ 1 _ (by omega) (by omega) (Or.inr rfl) (fun z => hA ?_) (fun z => absurd z.1 (by decide))⟩
    · rcases z with z | z
      · exact absurd z (by decide)
      · simp only [hidS, Bool.or_eq_true]; exact Or.inr z
    · simp only [hidS, Bool.or_eq_false_iff]
      exact ⟨by simpa using q, z.2⟩
    · simp only [hidS, Bool.or_eq_true]
      exact Or.inl (by simpa using q)
  · exact h.elim
/-- node j is on line k's way -/
def w_isOnWay (m : Nat) : pw_Wp := fun Ag I K => match Ag with
  | [.ref o, .int y, .int x] => o = m ∧ InvB (I (m + 1)) ∧ (0 ≤ y.toInt ∧ y.toInt < 6) ∧ (0 ≤ x.toInt ∧ x.toInt < 16) ∧ (onWay (I (m + 1)) y.toNatClampNeg x.toNatClampNeg = true → K (some (.int 1)) I) ∧ (onWay (I (m + 1)) y.toNatClampNeg x.toNatClampNeg = false → K (some (.int 0)) I)
  | _ => False
set_option maxRecDepth 100000 in
set_option maxHeartbeats 4000000 in
theorem x_isOnWay (hM : pw_mod sh P m) (h : w_isOnWay m Ag I K) : pw_ok mX7_isOnWay 1 base n sh P Ag I K := by
  unfold w_isOnWay at h
  split at h
  · rename_i o y x
    obtain ⟨rfl, hI, hy, hx, hA, hB⟩ := h
    obtain ⟨h1, ⟨h2, h3⟩, -⟩ := hM
    obtain ⟨k, rfl, hk⟩ := tn16 hx
    obtain ⟨y, rfl, hyk⟩ := tn6 hy
    rw [cl_nI (by omega), cl_nI (by omega)] at hA hB
    refine pw_bd [_, _, _, _] pl_X7 c_rii rfl rfl ?_
    have loop : ∀ (f j : Nat) (L0 : Int32), j < 6 → j < f → ((wayS (I (o + 1)) j).contains y = true → K (some (.int 1)) I) → ((wayS (I (o + 1)) j).contains y = false → K (some (.int 0)) I) →
        PW (mX7_isOnWay, 1, 0, 0, none, base) n sh P I 0 0 12 [some (.ref o), some (.int (nI y)), some (.int L0), some (.int (nI j))] [] (pw_QK n sh P K) := by
      intro f
      induction f with
      | zero => intro j L0 h1 h2; omega
      | succ f ih =>
        intro j L0 hj hf hT hF
        refine pw_go okX7_isOnWay (cc [(98, w_n)]) ⟨Nat.le_refl _, Nat.le_refl _⟩ (cc_c (fun Ag I K h => ⟨0, Nat.le_of_ble_eq_true rfl, x_n h⟩) cc_n) (st1 12) 60 ?_
        simp only [vc_s, vq_s, vk_s, e_iconst, e_bipush, e_sipush, e_ldc, e_ldc_w, e_iload_n, e_iload, e_aload_n, e_aload, e_istore_n, e_istore, e_astore_n, e_astore, e_iinc, e_iadd, e_isub, e_imul, e_iand, e_ior, e_ixor, e_idiv, e_irem, e_ishl, e_ishr, e_iushr, e_i2c, e_dup, e_dup2, e_pop, e_goto, e_ifCond, e_if_icmp, e_tableswitch, e_lookupswitch, e_getfield_i, e_getfield_r, e_putfield_i, e_putfield_z, e_iaload, e_caload, e_aaload, e_iastore, e_castore, e_arraylength, e_invokestatic, e_invokevirtual, e_ireturn, e_return_, s_i_c, s_r_c, s_v_i, s_v_r, s_l_0, s_l_1, s_l_2, s_l_3, s_l_4, s_l_5, s_l_6, s_a_0, s_a_1, s_a_2, s_a_3, s_m_0, s_m_i, s_m_r, s_m_i7, s_m_r7, s_m_i6, s_m_r6, s_m_i5, s_m_r5, s_m_i4, s_m_r4, s_w_n, s_w_c, s_p_eq, s_p_ne, s_p_lt, s_p_ge, s_p_gt, s_p_le, nk_i, nk_z, nk_c, rf_s, ov_s, ov_n, fin0, fin1, fin2, fin3, cond_true, cond_false, List.set_cons_zero, List.set_cons_succ, List.length_cons, List.length_nil, true_and, and_true, true_or, or_true, implies_true, forall_const, not_true_eq_false, not_false_eq_true, false_implies, Nat.reduceAdd, Nat.reduceLT, Nat.reduceBEq, Nat.reduceEqDiff, Bool.or_false, Bool.false_or, Bool.or_true, Bool.true_or, beq_self_eq_true, Nat.reduceLeDiff, Nat.reduceMul, Nat.reduceSub, eq_self, Nat.reduceBneDiff, st0_s, st1_s, st2_s, st3_s, reduceCtorEq, cc_s, cc_0, tl_0, cl_0, il_0, tl_1, cl_1, il_1, tl_2, cl_2, il_2, tl_3, cl_3, il_3, tl_4, cl_4, il_4, tl_5, cl_5, il_5, tl_6, cl_6, il_6, tl_7, cl_7, il_7, tl_8, cl_8, il_8, tl_9, cl_9, il_9, tl_10, cl_10, il_10, tl_11, cl_11, il_11, tl_12, cl_12, il_12, tl_13, cl_13, il_13, tl_14, cl_14, il_14, tl_15, cl_15, il_15, tl_16, cl_16, il_16, tl_20, tl_21, tl_25, tl_32, tl_48, tl_50, tl_57, tl_58, tl_59, tl_60, tl_99, tl_100, tl_101, tl_108, tl_109, tl_116, tl_120, tl_126, tl_374, tl_1122, tl_50000, i10, i01, tl_m1, tl_m2, tl_m3, tl_m4, nr_X7_isOnWay, tX7_isOnWay_0, tX7_isOnWay_1, tX7_isOnWay_4, tX7_isOnWay_5, tX7_isOnWay_8, tX7_isOnWay_9, tX7_isOnWay_10, tX7_isOnWay_11, tX7_isOnWay_12, tX7_isOnWay_13, tX7_isOnWay_16, tX7_isOnWay_17, tX7_isOnWay_18, tX7_isOnWay_21, tX7_isOnWay_22, tX7_isOnWay_25, tX7_isOnWay_26, tX7_isOnWay_29, tX7_isOnWay_30, tX7_isOnWay_31, tX7_isOnWay_32, tX7_isOnWay_33, tX7_isOnWay_36, tX7_isOnWay_37, tX7_isOnWay_38, tX7_isOnWay_41, tX7_isOnWay_42, tX7_isOnWay_45, tX7_isOnWay_46, pw_QK_s, w_n, h1, h2, h3]
        simp (disch := omega) only [ix_l, ix_n, ix_0, ix_1, ix_2, ix_3, ix_4, ix_5, ix_6, ix_7, ix_8, ix_9, ix_10, ix_11, ix_12, ix_13, ix_14, ix_15, ix_20, ix_100, ix_374, jx_100, jx_11, jx_374, kx_374, cl_nI, in_nI, Nat.add_zero, true_and, nI_pos, nI_inj, false_implies, not_false_eq_true, forall_const]
        refine ⟨fun q2 => ⟨fun z => absurd q2 z, fun _ => hT ?_⟩, fun q => ?_⟩
        · subst q2
          by_cases hj0 : j = 0
          · subst hj0; rfl
          · rw [wayS_s hI (by omega) hj]; simp
        · by_cases hj0 : j = 0
          · subst hj0
            rw [show I (o + 1) (16 + 25 * 0) = -1 from hI.2.2.2.2.1.1]
            refine pw_go okX7_isOnWay (cc [(98, w_n)]) ⟨Nat.le_refl _, Nat.le_refl _⟩ (cc_c (fun Ag I K h => ⟨0, Nat.le_of_ble_eq_true rfl, x_n h⟩) cc_n) (st1 12) 60 ?_
            simp only [vc_s, vq_s, vk_s, e_iconst, e_bipush, e_sipush, e_ldc, e_ldc_w, e_iload_n, e_iload, e_aload_n, e_aload, e_istore_n, e_istore, e_astore_n, e_astore, e_iinc, e_iadd, e_isub, e_imul, e_iand, e_ior, e_ixor, e_idiv, e_irem, e_ishl, e_ishr, e_iushr, e_i2c, e_dup, e_dup2, e_pop, e_goto, e_ifCond, e_if_icmp, e_tableswitch, e_lookupswitch, e_getfield_i, e_getfield_r, e_putfield_i, e_putfield_z, e_iaload, e_caload, e_aaload, e_iastore, e_castore, e_arraylength, e_invokestatic, e_invokevirtual, e_ireturn, e_return_, s_i_c, s_r_c, s_v_i, s_v_r, s_l_0, s_l_1, s_l_2, s_l_3, s_l_4, s_l_5, s_l_6, s_a_0, s_a_1, s_a_2, s_a_3, s_m_0, s_m_i, s_m_r, s_m_i7, s_m_r7, s_m_i6, s_m_r6, s_m_i5, s_m_r5, s_m_i4, s_m_r4, s_w_n, s_w_c, s_p_eq, s_p_ne, s_p_lt, s_p_ge, s_p_gt, s_p_le, nk_i, nk_z, nk_c, rf_s, ov_s, ov_n, fin0, fin1, fin2, fin3, cond_true, cond_false, List.set_cons_zero, List.set_cons_succ, List.length_cons, List.length_nil, true_and, and_true, true_or, or_true, implies_true, forall_const, not_true_eq_false, not_false_eq_true, false_implies, Nat.reduceAdd, Nat.reduceLT, Nat.reduceBEq, Nat.reduceEqDiff, Bool.or_false, Bool.false_or, Bool.or_true, Bool.true_or, beq_self_eq_true, Nat.reduceLeDiff, Nat.reduceMul, Nat.reduceSub, eq_self, Nat.reduceBneDiff, st0_s, st1_s, st2_s, st3_s, reduceCtorEq, cc_s, cc_0, tl_0, cl_0, il_0, tl_1, cl_1, il_1, tl_2, cl_2, il_2, tl_3, cl_3, il_3, tl_4, cl_4, il_4, tl_5, cl_5, il_5, tl_6, cl_6, il_6, tl_7, cl_7, il_7, tl_8, cl_8, il_8, tl_9, cl_9, il_9, tl_10, cl_10, il_10, tl_11, cl_11, il_11, tl_12, cl_12, il_12, tl_13, cl_13, il_13, tl_14, cl_14, il_14, tl_15, cl_15, il_15, tl_16, cl_16, il_16, tl_20, tl_21, tl_25, tl_32, tl_48, tl_50, tl_57, tl_58, tl_59, tl_60, tl_99, tl_100, tl_101, tl_108, tl_109, tl_116, tl_120, tl_126, tl_374, tl_1122, tl_50000, i10, i01, tl_m1, tl_m2, tl_m3, tl_m4, nr_X7_isOnWay, tX7_isOnWay_0, tX7_isOnWay_1, tX7_isOnWay_4, tX7_isOnWay_5, tX7_isOnWay_8, tX7_isOnWay_9, tX7_isOnWay_10, tX7_isOnWay_11, tX7_isOnWay_12, tX7_isOnWay_13, tX7_isOnWay_16, tX7_isOnWay_17, tX7_isOnWay_18, tX7_isOnWay_21, tX7_isOnWay_22, tX7_isOnWay_25, tX7_isOnWay_26, tX7_isOnWay_29, tX7_isOnWay_30, tX7_isOnWay_31, tX7_isOnWay_32, tX7_isOnWay_33, tX7_isOnWay_36, tX7_isOnWay_37, tX7_isOnWay_38, tX7_isOnWay_41, tX7_isOnWay_42, tX7_isOnWay_45, tX7_isOnWay_46, pw_QK_s, w_n, h1, h2, h3]
            rw [wayS_0] at hF
            have e : ¬ (-1 : Int32) = nI y := fun z => by
              have := congrArg Int32.toInt z
              rw [ti_nI (by omega)] at this
              have h9 : (-1 : Int32).toInt = -1 := rfl
              omega
            refine ⟨fun _ => ⟨fun _ => hF (by simp; omega), fun z => absurd z e⟩, fun q => absurd (by decide) q⟩
          · have hon := hI.2.2.2.2.1.2 j (by omega) hj
            rw [wayS_s hI (by omega) hj, List.contains_cons, show (y == j) = false by simp; omega, Bool.false_or] at hT hF
            rw [hon.1]
            exact ih _ L0 (by omega) (by omega) hT hF
    have hat := (hI.2.2.2.2.2.1 k hk).1
    have hnn := hI.1
    refine pw_go okX7_isOnWay (cc [(99, w_l)]) ⟨Nat.le_refl _, Nat.le_refl _⟩ (cc_c (fun Ag I K h => ⟨0, Nat.le_of_ble_eq_true rfl, x_l h⟩) cc_n) (st1 12) 60 ?_
    simp only [vc_s, vq_s, vk_s, e_iconst, e_bipush, e_sipush, e_ldc, e_ldc_w, e_iload_n, e_iload, e_aload_n, e_aload, e_istore_n, e_istore, e_astore_n, e_astore, e_iinc, e_iadd, e_isub, e_imul, e_iand, e_ior, e_ixor, e_idiv, e_irem, e_ishl, e_ishr, e_iushr, e_i2c, e_dup, e_dup2, e_pop, e_goto, e_ifCond, e_if_icmp, e_tableswitch, e_lookupswitch, e_getfield_i, e_getfield_r, e_putfield_i, e_putfield_z, e_iaload, e_caload, e_aaload, e_iastore, e_castore, e_arraylength, e_invokestatic, e_invokevirtual, e_ireturn, e_return_, s_i_c, s_r_c, s_v_i, s_v_r, s_l_0, s_l_1, s_l_2, s_l_3, s_l_4, s_l_5, s_l_6, s_a_0, s_a_1, s_a_2, s_a_3, s_m_0, s_m_i, s_m_r, s_m_i7, s_m_r7, s_m_i6, s_m_r6, s_m_i5, s_m_r5, s_m_i4, s_m_r4, s_w_n, s_w_c, s_p_eq, s_p_ne, s_p_lt, s_p_ge, s_p_gt, s_p_le, nk_i, nk_z, nk_c, rf_s, ov_s, ov_n, fin0, fin1, fin2, fin3, cond_true, cond_false, List.set_cons_zero, List.set_cons_succ, List.length_cons, List.length_nil, true_and, and_true, true_or, or_true, implies_true, forall_const, not_true_eq_false, not_false_eq_true, false_implies, Nat.reduceAdd, Nat.reduceLT, Nat.reduceBEq, Nat.reduceEqDiff, Bool.or_false, Bool.false_or, Bool.or_true, Bool.true_or, beq_self_eq_true, Nat.reduceLeDiff, Nat.reduceMul, Nat.reduceSub, eq_self, Nat.reduceBneDiff, st0_s, st1_s, st2_s, st3_s, reduceCtorEq, cc_s, cc_0, tl_0, cl_0, il_0, tl_1, cl_1, il_1, tl_2, cl_2, il_2, tl_3, cl_3, il_3, tl_4, cl_4, il_4, tl_5, cl_5, il_5, tl_6, cl_6, il_6, tl_7, cl_7, il_7, tl_8, cl_8, il_8, tl_9, cl_9, il_9, tl_10, cl_10, il_10, tl_11, cl_11, il_11, tl_12, cl_12, il_12, tl_13, cl_13, il_13, tl_14, cl_14, il_14, tl_15, cl_15, il_15, tl_16, cl_16, il_16, tl_20, tl_21, tl_25, tl_32, tl_48, tl_50, tl_57, tl_58, tl_59, tl_60, tl_99, tl_100, tl_101, tl_108, tl_109, tl_116, tl_120, tl_126, tl_374, tl_1122, tl_50000, i10, i01, tl_m1, tl_m2, tl_m3, tl_m4, nr_X7_isOnWay, tX7_isOnWay_0, tX7_isOnWay_1, tX7_isOnWay_4, tX7_isOnWay_5, tX7_isOnWay_8, tX7_isOnWay_9, tX7_isOnWay_10, tX7_isOnWay_11, tX7_isOnWay_12, tX7_isOnWay_13, tX7_isOnWay_16, tX7_isOnWay_17, tX7_isOnWay_18, tX7_isOnWay_21, tX7_isOnWay_22, tX7_isOnWay_25, tX7_isOnWay_26, tX7_isOnWay_29, tX7_isOnWay_30, tX7_isOnWay_31, tX7_isOnWay_32, tX7_isOnWay_33, tX7_isOnWay_36, tX7_isOnWay_37, tX7_isOnWay_38, tX7_isOnWay_41, tX7_isOnWay_42, tX7_isOnWay_45, tX7_isOnWay_46, pw_QK_s, w_l, h1, h2, h3]
    simp (disch := omega) only [ix_l, ix_n, ix_0, ix_1, ix_2, ix_3, ix_4, ix_5, ix_6, ix_7, ix_8, ix_9, ix_10, ix_11, ix_12, ix_13, ix_14, ix_15, ix_20, ix_100, ix_374, jx_100, jx_11, jx_374, kx_374, cl_nI, in_nI, Nat.add_zero, true_and]
    rw [hat.1]
    exact loop 6 _ _ (by omega) (by omega) hA hB
  · exact h.elim
def w_linesBy (m : Nat) : pw_Wp := fun Ag I K => match Ag with
  | [.ref o, .int y] => o = m ∧ InvB (I (m + 1)) ∧ (0 ≤ y.toInt ∧ y.toInt < 6) ∧ K (some (.int (linesByS (I (m + 1)) y.toNatClampNeg))) I
  | _ => False
set_option maxRecDepth 100000 in
set_option maxHeartbeats 4000000 in
theorem x_linesBy (hM : pw_mod sh P m) (h : w_linesBy m Ag I K) : pw_ok mX7_linesBy 2 base n sh P Ag I K := by
  unfold w_linesBy at h
  split at h
  · rename_i o y
    obtain ⟨rfl, hI, hy, hA⟩ := h
    obtain ⟨h1, ⟨h2, h3⟩, -⟩ := id hM
    obtain ⟨y, rfl, hyk⟩ := tn6 hy
    rw [cl_nI (by omega)] at hA
    have h4 := hI.2.1
    refine pw_bd [_, _, _, _] pl_X7 c_ri rfl rfl ?_
    have loop : ∀ (f k : Nat), k + f = vN (I (o + 1)) 4 → PW (mX7_linesBy, 2, 0, 0, none, base) n sh P I 0 0 4 [some (.ref o), some (.int (nI y)), some (.int (setF (onWay (I (o + 1)) y) k)), some (.int (nI k))] [] (pw_QK n sh P K) := by
      intro f
      induction f with
      | zero =>
        intro k hk
        refine pw_go okX7_linesBy (cc [(106, (w_isOnWay o))]) ⟨Nat.le_refl _, Nat.le_refl _⟩ (cc_c (fun Ag I K h => ⟨1, Nat.le_of_ble_eq_true rfl, x_isOnWay hM h⟩) cc_n) (st1 4) 60 ?_
        simp only [vc_s, vq_s, vk_s, e_iconst, e_bipush, e_sipush, e_ldc, e_ldc_w, e_iload_n, e_iload, e_aload_n, e_aload, e_istore_n, e_istore, e_astore_n, e_astore, e_iinc, e_iadd, e_isub, e_imul, e_iand, e_ior, e_ixor, e_idiv, e_irem, e_ishl, e_ishr, e_iushr, e_i2c, e_dup, e_dup2, e_pop, e_goto, e_ifCond, e_if_icmp, e_tableswitch, e_lookupswitch, e_getfield_i, e_getfield_r, e_putfield_i, e_putfield_z, e_iaload, e_caload, e_aaload, e_iastore, e_castore, e_arraylength, e_invokestatic, e_invokevirtual, e_ireturn, e_return_, s_i_c, s_r_c, s_v_i, s_v_r, s_l_0, s_l_1, s_l_2, s_l_3, s_l_4, s_l_5, s_l_6, s_a_0, s_a_1, s_a_2, s_a_3, s_m_0, s_m_i, s_m_r, s_m_i7, s_m_r7, s_m_i6, s_m_r6, s_m_i5, s_m_r5, s_m_i4, s_m_r4, s_w_n, s_w_c, s_p_eq, s_p_ne, s_p_lt, s_p_ge, s_p_gt, s_p_le, nk_i, nk_z, nk_c, rf_s, ov_s, ov_n, fin0, fin1, fin2, fin3, cond_true, cond_false, List.set_cons_zero, List.set_cons_succ, List.length_cons, List.length_nil, true_and, and_true, true_or, or_true, implies_true, forall_const, not_true_eq_false, not_false_eq_true, false_implies, Nat.reduceAdd, Nat.reduceLT, Nat.reduceBEq, Nat.reduceEqDiff, Bool.or_false, Bool.false_or, Bool.or_true, Bool.true_or, beq_self_eq_true, Nat.reduceLeDiff, Nat.reduceMul, Nat.reduceSub, eq_self, Nat.reduceBneDiff, st0_s, st1_s, st2_s, st3_s, reduceCtorEq, cc_s, cc_0, tl_0, cl_0, il_0, tl_1, cl_1, il_1, tl_2, cl_2, il_2, tl_3, cl_3, il_3, tl_4, cl_4, il_4, tl_5, cl_5, il_5, tl_6, cl_6, il_6, tl_7, cl_7, il_7, tl_8, cl_8, il_8, tl_9, cl_9, il_9, tl_10, cl_10, il_10, tl_11, cl_11, il_11, tl_12, cl_12, il_12, tl_13, cl_13, il_13, tl_14, cl_14, il_14, tl_15, cl_15, il_15, tl_16, cl_16, il_16, tl_20, tl_21, tl_25, tl_32, tl_48, tl_50, tl_57, tl_58, tl_59, tl_60, tl_99, tl_100, tl_101, tl_108, tl_109, tl_116, tl_120, tl_126, tl_374, tl_1122, tl_50000, i10, i01, tl_m1, tl_m2, tl_m3, tl_m4, nr_X7_linesBy, tX7_linesBy_0, tX7_linesBy_1, tX7_linesBy_2, tX7_linesBy_3, tX7_linesBy_4, tX7_linesBy_5, tX7_linesBy_6, tX7_linesBy_9, tX7_linesBy_10, tX7_linesBy_11, tX7_linesBy_14, tX7_linesBy_15, tX7_linesBy_16, tX7_linesBy_17, tX7_linesBy_18, tX7_linesBy_21, tX7_linesBy_24, tX7_linesBy_25, tX7_linesBy_26, tX7_linesBy_27, tX7_linesBy_30, tX7_linesBy_31, tX7_linesBy_32, tX7_linesBy_33, tX7_linesBy_36, tX7_linesBy_39, tX7_linesBy_40, pw_QK_s, w_isOnWay, h1, h2, h3]
        rw [h4.1]
        refine ⟨fun _ => ?_, fun q => absurd (nI_le (by omega) (by omega)) q⟩
        rw [show k = vN (I (o + 1)) 4 by omega]
        exact hA
      | succ f ih =>
        intro k hk
        have hk2 : k < vN (I (o + 1)) 4 := by omega
        refine pw_go okX7_linesBy (cc [(106, (w_isOnWay o))]) ⟨Nat.le_refl _, Nat.le_refl _⟩ (cc_c (fun Ag I K h => ⟨1, Nat.le_of_ble_eq_true rfl, x_isOnWay hM h⟩) cc_n) (st1 4) 60 ?_
        simp only [vc_s, vq_s, vk_s, e_iconst, e_bipush, e_sipush, e_ldc, e_ldc_w, e_iload_n, e_iload, e_aload_n, e_aload, e_istore_n, e_istore, e_astore_n, e_astore, e_iinc, e_iadd, e_isub, e_imul, e_iand, e_ior, e_ixor, e_idiv, e_irem, e_ishl, e_ishr, e_iushr, e_i2c, e_dup, e_dup2, e_pop, e_goto, e_ifCond, e_if_icmp, e_tableswitch, e_lookupswitch, e_getfield_i, e_getfield_r, e_putfield_i, e_putfield_z, e_iaload, e_caload, e_aaload, e_iastore, e_castore, e_arraylength, e_invokestatic, e_invokevirtual, e_ireturn, e_return_, s_i_c, s_r_c, s_v_i, s_v_r, s_l_0, s_l_1, s_l_2, s_l_3, s_l_4, s_l_5, s_l_6, s_a_0, s_a_1, s_a_2, s_a_3, s_m_0, s_m_i, s_m_r, s_m_i7, s_m_r7, s_m_i6, s_m_r6, s_m_i5, s_m_r5, s_m_i4, s_m_r4, s_w_n, s_w_c, s_p_eq, s_p_ne, s_p_lt, s_p_ge, s_p_gt, s_p_le, nk_i, nk_z, nk_c, rf_s, ov_s, ov_n, fin0, fin1, fin2, fin3, cond_true, cond_false, List.set_cons_zero, List.set_cons_succ, List.length_cons, List.length_nil, true_and, and_true, true_or, or_true, implies_true, forall_const, not_true_eq_false, not_false_eq_true, false_implies, Nat.reduceAdd, Nat.reduceLT, Nat.reduceBEq, Nat.reduceEqDiff, Bool.or_false, Bool.false_or, Bool.or_true, Bool.true_or, beq_self_eq_true, Nat.reduceLeDiff, Nat.reduceMul, Nat.reduceSub, eq_self, Nat.reduceBneDiff, st0_s, st1_s, st2_s, st3_s, reduceCtorEq, cc_s, cc_0, tl_0, cl_0, il_0, tl_1, cl_1, il_1, tl_2, cl_2, il_2, tl_3, cl_3, il_3, tl_4, cl_4, il_4, tl_5, cl_5, il_5, tl_6, cl_6, il_6, tl_7, cl_7, il_7, tl_8, cl_8, il_8, tl_9, cl_9, il_9, tl_10, cl_10, il_10, tl_11, cl_11, il_11, tl_12, cl_12, il_12, tl_13, cl_13, il_13, tl_14, cl_14, il_14, tl_15, cl_15, il_15, tl_16, cl_16, il_16, tl_20, tl_21, tl_25, tl_32, tl_48, tl_50, tl_57, tl_58, tl_59, tl_60, tl_99, tl_100, tl_101, tl_108, tl_109, tl_116, tl_120, tl_126, tl_374, tl_1122, tl_50000, i10, i01, tl_m1, tl_m2, tl_m3, tl_m4, nr_X7_linesBy, tX7_linesBy_0, tX7_linesBy_1, tX7_linesBy_2, tX7_linesBy_3, tX7_linesBy_4, tX7_linesBy_5, tX7_linesBy_6, tX7_linesBy_9, tX7_linesBy_10, tX7_linesBy_11, tX7_linesBy_14, tX7_linesBy_15, tX7_linesBy_16, tX7_linesBy_17, tX7_linesBy_18, tX7_linesBy_21, tX7_linesBy_24, tX7_linesBy_25, tX7_linesBy_26, tX7_linesBy_27, tX7_linesBy_30, tX7_linesBy_31, tX7_linesBy_32, tX7_linesBy_33, tX7_linesBy_36, tX7_linesBy_39, tX7_linesBy_40, pw_QK_s, w_isOnWay, h1, h2, h3]
        rw [h4.1, ti_nI (by omega), ti_nI (by omega), cl_nI (by omega), cl_nI (by omega), ix_1]
        refine ⟨fun q => absurd q (nI_ge (by omega) (by omega)), fun _ => ⟨hI, by omega, by omega, fun q => ?_, fun q => ?_⟩⟩
        · have := ih (k + 1) (by omega)
          rw [setF, if_pos q] at this
          exact this
        · have := ih (k + 1) (by omega)
          rw [setF, if_neg (by rw [q]; decide)] at this
          exact this
    have := loop _ 0 (Nat.zero_add _)
    refine pw_go okX7_linesBy (cc []) ⟨Nat.le_refl _, Nat.le_refl _⟩ cc_n (st1 4) 60 ?_
    simp only [vc_s, vq_s, vk_s, e_iconst, e_bipush, e_sipush, e_ldc, e_ldc_w, e_iload_n, e_iload, e_aload_n, e_aload, e_istore_n, e_istore, e_astore_n, e_astore, e_iinc, e_iadd, e_isub, e_imul, e_iand, e_ior, e_ixor, e_idiv, e_irem, e_ishl, e_ishr, e_iushr, e_i2c, e_dup, e_dup2, e_pop, e_goto, e_ifCond, e_if_icmp, e_tableswitch, e_lookupswitch, e_getfield_i, e_getfield_r, e_putfield_i, e_putfield_z, e_iaload, e_caload, e_aaload, e_iastore, e_castore, e_arraylength, e_invokestatic, e_invokevirtual, e_ireturn, e_return_, s_i_c, s_r_c, s_v_i, s_v_r, s_l_0, s_l_1, s_l_2, s_l_3, s_l_4, s_l_5, s_l_6, s_a_0, s_a_1, s_a_2, s_a_3, s_m_0, s_m_i, s_m_r, s_m_i7, s_m_r7, s_m_i6, s_m_r6, s_m_i5, s_m_r5, s_m_i4, s_m_r4, s_w_n, s_w_c, s_p_eq, s_p_ne, s_p_lt, s_p_ge, s_p_gt, s_p_le, nk_i, nk_z, nk_c, rf_s, ov_s, ov_n, fin0, fin1, fin2, fin3, cond_true, cond_false, List.set_cons_zero, List.set_cons_succ, List.length_cons, List.length_nil, true_and, and_true, true_or, or_true, implies_true, forall_const, not_true_eq_false, not_false_eq_true, false_implies, Nat.reduceAdd, Nat.reduceLT, Nat.reduceBEq, Nat.reduceEqDiff, Bool.or_false, Bool.false_or, Bool.or_true, Bool.true_or, beq_self_eq_true, Nat.reduceLeDiff, Nat.reduceMul, Nat.reduceSub, eq_self, Nat.reduceBneDiff, st0_s, st1_s, st2_s, st3_s, reduceCtorEq, cc_s, cc_0, tl_0, cl_0, il_0, tl_1, cl_1, il_1, tl_2, cl_2, il_2, tl_3, cl_3, il_3, tl_4, cl_4, il_4, tl_5, cl_5, il_5, tl_6, cl_6, il_6, tl_7, cl_7, il_7, tl_8, cl_8, il_8, tl_9, cl_9, il_9, tl_10, cl_10, il_10, tl_11, cl_11, il_11, tl_12, cl_12, il_12, tl_13, cl_13, il_13, tl_14, cl_14, il_14, tl_15, cl_15, il_15, tl_16, cl_16, il_16, tl_20, tl_21, tl_25, tl_32, tl_48, tl_50, tl_57, tl_58, tl_59, tl_60, tl_99, tl_100, tl_101, tl_108, tl_109, tl_116, tl_120, tl_126, tl_374, tl_1122, tl_50000, i10, i01, tl_m1, tl_m2, tl_m3, tl_m4, nr_X7_linesBy, tX7_linesBy_0, tX7_linesBy_1, tX7_linesBy_2, tX7_linesBy_3, tX7_linesBy_4, tX7_linesBy_5, tX7_linesBy_6, tX7_linesBy_9, tX7_linesBy_10, tX7_linesBy_11, tX7_linesBy_14, tX7_linesBy_15, tX7_linesBy_16, tX7_linesBy_17, tX7_linesBy_18, tX7_linesBy_21, tX7_linesBy_24, tX7_linesBy_25, tX7_linesBy_26, tX7_linesBy_27, tX7_linesBy_30, tX7_linesBy_31, tX7_linesBy_32, tX7_linesBy_33, tX7_linesBy_36, tX7_linesBy_39, tX7_linesBy_40, pw_QK_s, h1, h2, h3]
    exact this
  · exact h.elim
def w_bits : pw_Wp := fun Ag I K => match Ag with
  | [.int x] => K (some (.int (bitsS x))) I
  | _ => False
set_option maxRecDepth 100000 in
set_option maxHeartbeats 4000000 in
theorem x_bits (h : w_bits Ag I K) : pw_ok mX7_bits 0 base n sh P Ag I K := by
  unfold w_bits at h
  split at h
  · rename_i x
    refine pw_bd [_, _, _] pl_X7 c_i rfl rfl ?_
    have loop : ∀ (f k : Nat), k + f = 16 → PW (mX7_bits, 0, 0, 0, none, base) n sh P I 0 0 4 [some (.int x), some (.int (sumF (fun k => (x >>> (nI k &&& 31)) &&& 1) k)), some (.int (nI k))] [] (pw_QK n sh P K) := by
      intro f
      induction f with
      | zero =>
        intro k hk
        refine pw_go okX7_bits (cc []) ⟨Nat.le_refl _, Nat.le_refl _⟩ cc_n (st1 4) 60 ?_
        simp only [vc_s, vq_s, vk_s, e_iconst, e_bipush, e_sipush, e_ldc, e_ldc_w, e_iload_n, e_iload, e_aload_n, e_aload, e_istore_n, e_istore, e_astore_n, e_astore, e_iinc, e_iadd, e_isub, e_imul, e_iand, e_ior, e_ixor, e_idiv, e_irem, e_ishl, e_ishr, e_iushr, e_i2c, e_dup, e_dup2, e_pop, e_goto, e_ifCond, e_if_icmp, e_tableswitch, e_lookupswitch, e_getfield_i, e_getfield_r, e_putfield_i, e_putfield_z, e_iaload, e_caload, e_aaload, e_iastore, e_castore, e_arraylength, e_invokestatic, e_invokevirtual, e_ireturn, e_return_, s_i_c, s_r_c, s_v_i, s_v_r, s_l_0, s_l_1, s_l_2, s_l_3, s_l_4, s_l_5, s_l_6, s_a_0, s_a_1, s_a_2, s_a_3, s_m_0, s_m_i, s_m_r, s_m_i7, s_m_r7, s_m_i6, s_m_r6, s_m_i5, s_m_r5, s_m_i4, s_m_r4, s_w_n, s_w_c, s_p_eq, s_p_ne, s_p_lt, s_p_ge, s_p_gt, s_p_le, nk_i, nk_z, nk_c, rf_s, ov_s, ov_n, fin0, fin1, fin2, fin3, cond_true, cond_false, List.set_cons_zero, List.set_cons_succ, List.length_cons, List.length_nil, true_and, and_true, true_or, or_true, implies_true, forall_const, not_true_eq_false, not_false_eq_true, false_implies, Nat.reduceAdd, Nat.reduceLT, Nat.reduceBEq, Nat.reduceEqDiff, Bool.or_false, Bool.false_or, Bool.or_true, Bool.true_or, beq_self_eq_true, Nat.reduceLeDiff, Nat.reduceMul, Nat.reduceSub, eq_self, Nat.reduceBneDiff, st0_s, st1_s, st2_s, st3_s, reduceCtorEq, cc_s, cc_0, tl_0, cl_0, il_0, tl_1, cl_1, il_1, tl_2, cl_2, il_2, tl_3, cl_3, il_3, tl_4, cl_4, il_4, tl_5, cl_5, il_5, tl_6, cl_6, il_6, tl_7, cl_7, il_7, tl_8, cl_8, il_8, tl_9, cl_9, il_9, tl_10, cl_10, il_10, tl_11, cl_11, il_11, tl_12, cl_12, il_12, tl_13, cl_13, il_13, tl_14, cl_14, il_14, tl_15, cl_15, il_15, tl_16, cl_16, il_16, tl_20, tl_21, tl_25, tl_32, tl_48, tl_50, tl_57, tl_58, tl_59, tl_60, tl_99, tl_100, tl_101, tl_108, tl_109, tl_116, tl_120, tl_126, tl_374, tl_1122, tl_50000, i10, i01, tl_m1, tl_m2, tl_m3, tl_m4, nr_X7_bits, tX7_bits_0, tX7_bits_1, tX7_bits_2, tX7_bits_3, tX7_bits_4, tX7_bits_5, tX7_bits_7, tX7_bits_10, tX7_bits_11, tX7_bits_12, tX7_bits_13, tX7_bits_14, tX7_bits_15, tX7_bits_16, tX7_bits_17, tX7_bits_18, tX7_bits_21, tX7_bits_24, tX7_bits_25, pw_QK_s]
        have : k = 16 := by omega
        subst this
        exact ⟨fun _ => h, fun q => absurd (by decide) q⟩
      | succ f ih =>
        intro k hk
        refine pw_go okX7_bits (cc []) ⟨Nat.le_refl _, Nat.le_refl _⟩ cc_n (st1 4) 60 ?_
        simp only [vc_s, vq_s, vk_s, e_iconst, e_bipush, e_sipush, e_ldc, e_ldc_w, e_iload_n, e_iload, e_aload_n, e_aload, e_istore_n, e_istore, e_astore_n, e_astore, e_iinc, e_iadd, e_isub, e_imul, e_iand, e_ior, e_ixor, e_idiv, e_irem, e_ishl, e_ishr, e_iushr, e_i2c, e_dup, e_dup2, e_pop, e_goto, e_ifCond, e_if_icmp, e_tableswitch, e_lookupswitch, e_getfield_i, e_getfield_r, e_putfield_i, e_putfield_z, e_iaload, e_caload, e_aaload, e_iastore, e_castore, e_arraylength, e_invokestatic, e_invokevirtual, e_ireturn, e_return_, s_i_c, s_r_c, s_v_i, s_v_r, s_l_0, s_l_1, s_l_2, s_l_3, s_l_4, s_l_5, s_l_6, s_a_0, s_a_1, s_a_2, s_a_3, s_m_0, s_m_i, s_m_r, s_m_i7, s_m_r7, s_m_i6, s_m_r6, s_m_i5, s_m_r5, s_m_i4, s_m_r4, s_w_n, s_w_c, s_p_eq, s_p_ne, s_p_lt, s_p_ge, s_p_gt, s_p_le, nk_i, nk_z, nk_c, rf_s, ov_s, ov_n, fin0, fin1, fin2, fin3, cond_true, cond_false, List.set_cons_zero, List.set_cons_succ, List.length_cons, List.length_nil, true_and, and_true, true_or, or_true, implies_true, forall_const, not_true_eq_false, not_false_eq_true, false_implies, Nat.reduceAdd, Nat.reduceLT, Nat.reduceBEq, Nat.reduceEqDiff, Bool.or_false, Bool.false_or, Bool.or_true, Bool.true_or, beq_self_eq_true, Nat.reduceLeDiff, Nat.reduceMul, Nat.reduceSub, eq_self, Nat.reduceBneDiff, st0_s, st1_s, st2_s, st3_s, reduceCtorEq, cc_s, cc_0, tl_0, cl_0, il_0, tl_1, cl_1, il_1, tl_2, cl_2, il_2, tl_3, cl_3, il_3, tl_4, cl_4, il_4, tl_5, cl_5, il_5, tl_6, cl_6, il_6, tl_7, cl_7, il_7, tl_8, cl_8, il_8, tl_9, cl_9, il_9, tl_10, cl_10, il_10, tl_11, cl_11, il_11, tl_12, cl_12, il_12, tl_13, cl_13, il_13, tl_14, cl_14, il_14, tl_15, cl_15, il_15, tl_16, cl_16, il_16, tl_20, tl_21, tl_25, tl_32, tl_48, tl_50, tl_57, tl_58, tl_59, tl_60, tl_99, tl_100, tl_101, tl_108, tl_109, tl_116, tl_120, tl_126, tl_374, tl_1122, tl_50000, i10, i01, tl_m1, tl_m2, tl_m3, tl_m4, nr_X7_bits, tX7_bits_0, tX7_bits_1, tX7_bits_2, tX7_bits_3, tX7_bits_4, tX7_bits_5, tX7_bits_7, tX7_bits_10, tX7_bits_11, tX7_bits_12, tX7_bits_13, tX7_bits_14, tX7_bits_15, tX7_bits_16, tX7_bits_17, tX7_bits_18, tX7_bits_21, tX7_bits_24, tX7_bits_25, pw_QK_s, ix_1]
        exact ⟨fun q => absurd q (nI_ge (a := k) (b := 16) (by omega) (by omega)), fun _ => ih (k + 1) (by omega)⟩
    have := loop _ 0 (Nat.zero_add _)
    refine pw_go okX7_bits (cc []) ⟨Nat.le_refl _, Nat.le_refl _⟩ cc_n (st1 4) 60 ?_
    simp only [vc_s, vq_s, vk_s, e_iconst, e_bipush, e_sipush, e_ldc, e_ldc_w, e_iload_n, e_iload, e_aload_n, e_aload, e_istore_n, e_istore, e_astore_n, e_astore, e_iinc, e_iadd, e_isub, e_imul, e_iand, e_ior, e_ixor, e_idiv, e_irem, e_ishl, e_ishr, e_iushr, e_i2c, e_dup, e_dup2, e_pop, e_goto, e_ifCond, e_if_icmp, e_tableswitch, e_lookupswitch, e_getfield_i, e_getfield_r, e_putfield_i, e_putfield_z, e_iaload, e_caload, e_aaload, e_iastore, e_castore, e_arraylength, e_invokestatic, e_invokevirtual, e_ireturn, e_return_, s_i_c, s_r_c, s_v_i, s_v_r, s_l_0, s_l_1, s_l_2, s_l_3, s_l_4, s_l_5, s_l_6, s_a_0, s_a_1, s_a_2, s_a_3, s_m_0, s_m_i, s_m_r, s_m_i7, s_m_r7, s_m_i6, s_m_r6, s_m_i5, s_m_r5, s_m_i4, s_m_r4, s_w_n, s_w_c, s_p_eq, s_p_ne, s_p_lt, s_p_ge, s_p_gt, s_p_le, nk_i, nk_z, nk_c, rf_s, ov_s, ov_n, fin0, fin1, fin2, fin3, cond_true, cond_false, List.set_cons_zero, List.set_cons_succ, List.length_cons, List.length_nil, true_and, and_true, true_or, or_true, implies_true, forall_const, not_true_eq_false, not_false_eq_true, false_implies, Nat.reduceAdd, Nat.reduceLT, Nat.reduceBEq, Nat.reduceEqDiff, Bool.or_false, Bool.false_or, Bool.or_true, Bool.true_or, beq_self_eq_true, Nat.reduceLeDiff, Nat.reduceMul, Nat.reduceSub, eq_self, Nat.reduceBneDiff, st0_s, st1_s, st2_s, st3_s, reduceCtorEq, cc_s, cc_0, tl_0, cl_0, il_0, tl_1, cl_1, il_1, tl_2, cl_2, il_2, tl_3, cl_3, il_3, tl_4, cl_4, il_4, tl_5, cl_5, il_5, tl_6, cl_6, il_6, tl_7, cl_7, il_7, tl_8, cl_8, il_8, tl_9, cl_9, il_9, tl_10, cl_10, il_10, tl_11, cl_11, il_11, tl_12, cl_12, il_12, tl_13, cl_13, il_13, tl_14, cl_14, il_14, tl_15, cl_15, il_15, tl_16, cl_16, il_16, tl_20, tl_21, tl_25, tl_32, tl_48, tl_50, tl_57, tl_58, tl_59, tl_60, tl_99, tl_100, tl_101, tl_108, tl_109, tl_116, tl_120, tl_126, tl_374, tl_1122, tl_50000, i10, i01, tl_m1, tl_m2, tl_m3, tl_m4, nr_X7_bits, tX7_bits_0, tX7_bits_1, tX7_bits_2, tX7_bits_3, tX7_bits_4, tX7_bits_5, tX7_bits_7, tX7_bits_10, tX7_bits_11, tX7_bits_12, tX7_bits_13, tX7_bits_14, tX7_bits_15, tX7_bits_16, tX7_bits_17, tX7_bits_18, tX7_bits_21, tX7_bits_24, tX7_bits_25, pw_QK_s]
    exact this
  · exact h.elim
end MOD1
end
section
/-! the reference: states kept, laid aside and back -/
section MOD2
variable {n base m : Nat} {sh : pw_Sh} {P : pw_P} {Ag : List Value} {I : pw_I} {K : Option Value → pw_I → Prop}
def w_layAside (m : Nat) : pw_Wp := fun Ag I K => match Ag with
  | [.ref o] => o = m ∧ K none (pw_set I (m + 3) (va_cpy (I (m + 1)) (I (m + 3)) 0 0 374))
  | _ => False
set_option maxRecDepth 100000 in
set_option maxHeartbeats 4000000 in
theorem x_layAside (hM : pw_mod sh P m) (h : w_layAside m Ag I K) : pw_ok mX7_layAside 0 base n sh P Ag I K := by
  unfold w_layAside at h
  split at h
  · rename_i o
    obtain ⟨rfl, hA⟩ := h
    obtain ⟨h1, ⟨h2, h3⟩, -, ⟨h4, h5⟩, -⟩ := id hM
    refine pw_bd [_, _] pl_X7 c_r rfl rfl ?_
    have loop : ∀ (f j : Nat), j + f = 374 → PW (mX7_layAside, 0, 0, 0, none, base) n sh P (pw_set I (o + 3) (va_cpy (I (o + 1)) (I (o + 3)) 0 0 j)) 0 0 2 [some (.ref o), some (.int (nI j))] [] (pw_QK n sh P K) := by
      intro f
      induction f with
      | zero =>
        intro j hj
        obtain rfl : j = 374 := by omega
        refine pw_go okX7_layAside (cc []) ⟨Nat.le_refl _, Nat.le_refl _⟩ cc_n (st1 2) 90 ?_
        simp only [vc_s, vq_s, vk_s, e_iconst, e_bipush, e_sipush, e_ldc, e_ldc_w, e_iload_n, e_iload, e_aload_n, e_aload, e_istore_n, e_istore, e_astore_n, e_astore, e_iinc, e_iadd, e_isub, e_imul, e_iand, e_ior, e_ixor, e_idiv, e_irem, e_ishl, e_ishr, e_iushr, e_i2c, e_dup, e_dup2, e_pop, e_goto, e_ifCond, e_if_icmp, e_tableswitch, e_lookupswitch, e_getfield_i, e_getfield_r, e_putfield_i, e_putfield_z, e_iaload, e_caload, e_aaload, e_iastore, e_castore, e_arraylength, e_invokestatic, e_invokevirtual, e_ireturn, e_return_, s_i_c, s_r_c, s_v_i, s_v_r, s_l_0, s_l_1, s_l_2, s_l_3, s_l_4, s_l_5, s_l_6, s_a_0, s_a_1, s_a_2, s_a_3, s_m_0, s_m_i, s_m_r, s_m_i7, s_m_r7, s_m_i6, s_m_r6, s_m_i5, s_m_r5, s_m_i4, s_m_r4, s_w_n, s_w_c, s_p_eq, s_p_ne, s_p_lt, s_p_ge, s_p_gt, s_p_le, nk_i, nk_z, nk_c, rf_s, ov_s, ov_n, fin0, fin1, fin2, fin3, cond_true, cond_false, List.set_cons_zero, List.set_cons_succ, List.length_cons, List.length_nil, true_and, and_true, true_or, or_true, implies_true, forall_const, not_true_eq_false, not_false_eq_true, false_implies, Nat.reduceAdd, Nat.reduceLT, Nat.reduceBEq, Nat.reduceEqDiff, Bool.or_false, Bool.false_or, Bool.or_true, Bool.true_or, beq_self_eq_true, Nat.reduceLeDiff, Nat.reduceMul, Nat.reduceSub, eq_self, Nat.reduceBneDiff, st0_s, st1_s, st2_s, st3_s, reduceCtorEq, cc_s, cc_0, tl_0, cl_0, il_0, tl_1, cl_1, il_1, tl_2, cl_2, il_2, tl_3, cl_3, il_3, tl_4, cl_4, il_4, tl_5, cl_5, il_5, tl_6, cl_6, il_6, tl_7, cl_7, il_7, tl_8, cl_8, il_8, tl_9, cl_9, il_9, tl_10, cl_10, il_10, tl_11, cl_11, il_11, tl_12, cl_12, il_12, tl_13, cl_13, il_13, tl_14, cl_14, il_14, tl_15, cl_15, il_15, tl_16, cl_16, il_16, tl_20, tl_21, tl_25, tl_32, tl_48, tl_50, tl_57, tl_58, tl_59, tl_60, tl_99, tl_100, tl_101, tl_108, tl_109, tl_116, tl_120, tl_126, tl_374, tl_1122, tl_50000, i10, i01, tl_m1, tl_m2, tl_m3, tl_m4, nr_X7_layAside, tX7_layAside_0, tX7_layAside_1, tX7_layAside_2, tX7_layAside_3, tX7_layAside_6, tX7_layAside_9, tX7_layAside_10, tX7_layAside_13, tX7_layAside_14, tX7_layAside_15, tX7_layAside_18, tX7_layAside_19, tX7_layAside_20, tX7_layAside_21, tX7_layAside_24, tX7_layAside_27, pw_QK_s, h1, h2, h3, h4, h5]
        try simp (disch := omega) only [ix_l, ix_n, ix_0, ix_1, ix_2, ix_3, ix_4, ix_5, ix_6, ix_7, ix_8, ix_9, ix_10, ix_11, ix_12, ix_13, ix_14, ix_15, ix_20, ix_100, ix_374, jx_100, jx_11, jx_374, kx_374, cl_nI, in_nI, Nat.add_zero, true_and, up_set, set_s, set_set, set_n, cpy_s0, cpy_sd, cpy_ss, nI_add]
        exact ⟨fun _ => hA, fun q => absurd (by decide) q⟩
      | succ f ih =>
        intro j hj
        refine pw_go okX7_layAside (cc []) ⟨Nat.le_refl _, Nat.le_refl _⟩ cc_n (st1 2) 90 ?_
        simp only [vc_s, vq_s, vk_s, e_iconst, e_bipush, e_sipush, e_ldc, e_ldc_w, e_iload_n, e_iload, e_aload_n, e_aload, e_istore_n, e_istore, e_astore_n, e_astore, e_iinc, e_iadd, e_isub, e_imul, e_iand, e_ior, e_ixor, e_idiv, e_irem, e_ishl, e_ishr, e_iushr, e_i2c, e_dup, e_dup2, e_pop, e_goto, e_ifCond, e_if_icmp, e_tableswitch, e_lookupswitch, e_getfield_i, e_getfield_r, e_putfield_i, e_putfield_z, e_iaload, e_caload, e_aaload, e_iastore, e_castore, e_arraylength, e_invokestatic, e_invokevirtual, e_ireturn, e_return_, s_i_c, s_r_c, s_v_i, s_v_r, s_l_0, s_l_1, s_l_2, s_l_3, s_l_4, s_l_5, s_l_6, s_a_0, s_a_1, s_a_2, s_a_3, s_m_0, s_m_i, s_m_r, s_m_i7, s_m_r7, s_m_i6, s_m_r6, s_m_i5, s_m_r5, s_m_i4, s_m_r4, s_w_n, s_w_c, s_p_eq, s_p_ne, s_p_lt, s_p_ge, s_p_gt, s_p_le, nk_i, nk_z, nk_c, rf_s, ov_s, ov_n, fin0, fin1, fin2, fin3, cond_true, cond_false, List.set_cons_zero, List.set_cons_succ, List.length_cons, List.length_nil, true_and, and_true, true_or, or_true, implies_true, forall_const, not_true_eq_false, not_false_eq_true, false_implies, Nat.reduceAdd, Nat.reduceLT, Nat.reduceBEq, Nat.reduceEqDiff, Bool.or_false, Bool.false_or, Bool.or_true, Bool.true_or, beq_self_eq_true, Nat.reduceLeDiff, Nat.reduceMul, Nat.reduceSub, eq_self, Nat.reduceBneDiff, st0_s, st1_s, st2_s, st3_s, reduceCtorEq, cc_s, cc_0, tl_0, cl_0, il_0, tl_1, cl_1, il_1, tl_2, cl_2, il_2, tl_3, cl_3, il_3, tl_4, cl_4, il_4, tl_5, cl_5, il_5, tl_6, cl_6, il_6, tl_7, cl_7, il_7, tl_8, cl_8, il_8, tl_9, cl_9, il_9, tl_10, cl_10, il_10, tl_11, cl_11, il_11, tl_12, cl_12, il_12, tl_13, cl_13, il_13, tl_14, cl_14, il_14, tl_15, cl_15, il_15, tl_16, cl_16, il_16, tl_20, tl_21, tl_25, tl_32, tl_48, tl_50, tl_57, tl_58, tl_59, tl_60, tl_99, tl_100, tl_101, tl_108, tl_109, tl_116, tl_120, tl_126, tl_374, tl_1122, tl_50000, i10, i01, tl_m1, tl_m2, tl_m3, tl_m4, nr_X7_layAside, tX7_layAside_0, tX7_layAside_1, tX7_layAside_2, tX7_layAside_3, tX7_layAside_6, tX7_layAside_9, tX7_layAside_10, tX7_layAside_13, tX7_layAside_14, tX7_layAside_15, tX7_layAside_18, tX7_layAside_19, tX7_layAside_20, tX7_layAside_21, tX7_layAside_24, tX7_layAside_27, pw_QK_s, h1, h2, h3, h4, h5]
        try simp (disch := omega) only [ix_l, ix_n, ix_0, ix_1, ix_2, ix_3, ix_4, ix_5, ix_6, ix_7, ix_8, ix_9, ix_10, ix_11, ix_12, ix_13, ix_14, ix_15, ix_20, ix_100, ix_374, jx_100, jx_11, jx_374, kx_374, cl_nI, in_nI, Nat.add_zero, true_and, up_set, set_s, set_set, set_n, cpy_s0, cpy_sd, cpy_ss, nI_add]
        exact ⟨fun q => absurd q (nI_geL 374 (by omega) (by omega)), fun _ => ih (j + 1) (by omega)⟩
    have := loop _ 0 (Nat.zero_add _)
    rw [cpy_0, set_id] at this
    refine pw_go okX7_layAside (cc []) ⟨Nat.le_refl _, Nat.le_refl _⟩ cc_n (st1 2) 60 ?_
    simp only [vc_s, vq_s, vk_s, e_iconst, e_bipush, e_sipush, e_ldc, e_ldc_w, e_iload_n, e_iload, e_aload_n, e_aload, e_istore_n, e_istore, e_astore_n, e_astore, e_iinc, e_iadd, e_isub, e_imul, e_iand, e_ior, e_ixor, e_idiv, e_irem, e_ishl, e_ishr, e_iushr, e_i2c, e_dup, e_dup2, e_pop, e_goto, e_ifCond, e_if_icmp, e_tableswitch, e_lookupswitch, e_getfield_i, e_getfield_r, e_putfield_i, e_putfield_z, e_iaload, e_caload, e_aaload, e_iastore, e_castore, e_arraylength, e_invokestatic, e_invokevirtual, e_ireturn, e_return_, s_i_c, s_r_c, s_v_i, s_v_r, s_l_0, s_l_1, s_l_2, s_l_3, s_l_4, s_l_5, s_l_6, s_a_0, s_a_1, s_a_2, s_a_3, s_m_0, s_m_i, s_m_r, s_m_i7, s_m_r7, s_m_i6, s_m_r6, s_m_i5, s_m_r5, s_m_i4, s_m_r4, s_w_n, s_w_c, s_p_eq, s_p_ne, s_p_lt, s_p_ge, s_p_gt, s_p_le, nk_i, nk_z, nk_c, rf_s, ov_s, ov_n, fin0, fin1, fin2, fin3, cond_true, cond_false, List.set_cons_zero, List.set_cons_succ, List.length_cons, List.length_nil, true_and, and_true, true_or, or_true, implies_true, forall_const, not_true_eq_false, not_false_eq_true, false_implies, Nat.reduceAdd, Nat.reduceLT, Nat.reduceBEq, Nat.reduceEqDiff, Bool.or_false, Bool.false_or, Bool.or_true, Bool.true_or, beq_self_eq_true, Nat.reduceLeDiff, Nat.reduceMul, Nat.reduceSub, eq_self, Nat.reduceBneDiff, st0_s, st1_s, st2_s, st3_s, reduceCtorEq, cc_s, cc_0, tl_0, cl_0, il_0, tl_1, cl_1, il_1, tl_2, cl_2, il_2, tl_3, cl_3, il_3, tl_4, cl_4, il_4, tl_5, cl_5, il_5, tl_6, cl_6, il_6, tl_7, cl_7, il_7, tl_8, cl_8, il_8, tl_9, cl_9, il_9, tl_10, cl_10, il_10, tl_11, cl_11, il_11, tl_12, cl_12, il_12, tl_13, cl_13, il_13, tl_14, cl_14, il_14, tl_15, cl_15, il_15, tl_16, cl_16, il_16, tl_20, tl_21, tl_25, tl_32, tl_48, tl_50, tl_57, tl_58, tl_59, tl_60, tl_99, tl_100, tl_101, tl_108, tl_109, tl_116, tl_120, tl_126, tl_374, tl_1122, tl_50000, i10, i01, tl_m1, tl_m2, tl_m3, tl_m4, nr_X7_layAside, tX7_layAside_0, tX7_layAside_1, tX7_layAside_2, tX7_layAside_3, tX7_layAside_6, tX7_layAside_9, tX7_layAside_10, tX7_layAside_13, tX7_layAside_14, tX7_layAside_15, tX7_layAside_18, tX7_layAside_19, tX7_layAside_20, tX7_layAside_21, tX7_layAside_24, tX7_layAside_27, pw_QK_s, h1, h2, h3, h4, h5]
    exact this
  · exact h.elim
def w_layBack (m : Nat) : pw_Wp := fun Ag I K => match Ag with
  | [.ref o] => o = m ∧ K none (pw_set I (m + 1) (va_cpy (I (m + 3)) (I (m + 1)) 0 0 374))
  | _ => False
set_option maxRecDepth 100000 in
set_option maxHeartbeats 4000000 in
theorem x_layBack (hM : pw_mod sh P m) (h : w_layBack m Ag I K) : pw_ok mX7_layBack 0 base n sh P Ag I K := by
  unfold w_layBack at h
  split at h
  · rename_i o
    obtain ⟨rfl, hA⟩ := h
    obtain ⟨h1, ⟨h2, h3⟩, -, ⟨h4, h5⟩, -⟩ := id hM
    refine pw_bd [_, _] pl_X7 c_r rfl rfl ?_
    have loop : ∀ (f j : Nat), j + f = 374 → PW (mX7_layBack, 0, 0, 0, none, base) n sh P (pw_set I (o + 1) (va_cpy (I (o + 3)) (I (o + 1)) 0 0 j)) 0 0 2 [some (.ref o), some (.int (nI j))] [] (pw_QK n sh P K) := by
      intro f
      induction f with
      | zero =>
        intro j hj
        obtain rfl : j = 374 := by omega
        refine pw_go okX7_layBack (cc []) ⟨Nat.le_refl _, Nat.le_refl _⟩ cc_n (st1 2) 90 ?_
        simp only [vc_s, vq_s, vk_s, e_iconst, e_bipush, e_sipush, e_ldc, e_ldc_w, e_iload_n, e_iload, e_aload_n, e_aload, e_istore_n, e_istore, e_astore_n, e_astore, e_iinc, e_iadd, e_isub, e_imul, e_iand, e_ior, e_ixor, e_idiv, e_irem, e_ishl, e_ishr, e_iushr, e_i2c, e_dup, e_dup2, e_pop, e_goto, e_ifCond, e_if_icmp, e_tableswitch, e_lookupswitch, e_getfield_i, e_getfield_r, e_putfield_i, e_putfield_z, e_iaload, e_caload, e_aaload, e_iastore, e_castore, e_arraylength, e_invokestatic, e_invokevirtual, e_ireturn, e_return_, s_i_c, s_r_c, s_v_i, s_v_r, s_l_0, s_l_1, s_l_2, s_l_3, s_l_4, s_l_5, s_l_6, s_a_0, s_a_1, s_a_2, s_a_3, s_m_0, s_m_i, s_m_r, s_m_i7, s_m_r7, s_m_i6, s_m_r6, s_m_i5, s_m_r5, s_m_i4, s_m_r4, s_w_n, s_w_c, s_p_eq, s_p_ne, s_p_lt, s_p_ge, s_p_gt, s_p_le, nk_i, nk_z, nk_c, rf_s, ov_s, ov_n, fin0, fin1, fin2, fin3, cond_true, cond_false, List.set_cons_zero, List.set_cons_succ, List.length_cons, List.length_nil, true_and, and_true, true_or, or_true, implies_true, forall_const, not_true_eq_false, not_false_eq_true, false_implies, Nat.reduceAdd, Nat.reduceLT, Nat.reduceBEq, Nat.reduceEqDiff, Bool.or_false, Bool.false_or, Bool.or_true, Bool.true_or, beq_self_eq_true, Nat.reduceLeDiff, Nat.reduceMul, Nat.reduceSub, eq_self, Nat.reduceBneDiff, st0_s, st1_s, st2_s, st3_s, reduceCtorEq, cc_s, cc_0, tl_0, cl_0, il_0, tl_1, cl_1, il_1, tl_2, cl_2, il_2, tl_3, cl_3, il_3, tl_4, cl_4, il_4, tl_5, cl_5, il_5, tl_6, cl_6, il_6, tl_7, cl_7, il_7, tl_8, cl_8, il_8, tl_9, cl_9, il_9, tl_10, cl_10, il_10, tl_11, cl_11, il_11, tl_12, cl_12, il_12, tl_13, cl_13, il_13, tl_14, cl_14, il_14, tl_15, cl_15, il_15, tl_16, cl_16, il_16, tl_20, tl_21, tl_25, tl_32, tl_48, tl_50, tl_57, tl_58, tl_59, tl_60, tl_99, tl_100, tl_101, tl_108, tl_109, tl_116, tl_120, tl_126, tl_374, tl_1122, tl_50000, i10, i01, tl_m1, tl_m2, tl_m3, tl_m4, nr_X7_layBack, tX7_layBack_0, tX7_layBack_1, tX7_layBack_2, tX7_layBack_3, tX7_layBack_6, tX7_layBack_9, tX7_layBack_10, tX7_layBack_13, tX7_layBack_14, tX7_layBack_15, tX7_layBack_18, tX7_layBack_19, tX7_layBack_20, tX7_layBack_21, tX7_layBack_24, tX7_layBack_27, pw_QK_s, h1, h2, h3, h4, h5]
        try simp (disch := omega) only [ix_l, ix_n, ix_0, ix_1, ix_2, ix_3, ix_4, ix_5, ix_6, ix_7, ix_8, ix_9, ix_10, ix_11, ix_12, ix_13, ix_14, ix_15, ix_20, ix_100, ix_374, jx_100, jx_11, jx_374, kx_374, cl_nI, in_nI, Nat.add_zero, true_and, up_set, set_s, set_set, set_n, cpy_s0, cpy_sd, cpy_ss, nI_add]
        exact ⟨fun _ => hA, fun q => absurd (by decide) q⟩
      | succ f ih =>
        intro j hj
        refine pw_go okX7_layBack (cc []) ⟨Nat.le_refl _, Nat.le_refl _⟩ cc_n (st1 2) 90 ?_
        simp only [vc_s, vq_s, vk_s, e_iconst, e_bipush, e_sipush, e_ldc, e_ldc_w, e_iload_n, e_iload, e_aload_n, e_aload, e_istore_n, e_istore, e_astore_n, e_astore, e_iinc, e_iadd, e_isub, e_imul, e_iand, e_ior, e_ixor, e_idiv, e_irem, e_ishl, e_ishr, e_iushr, e_i2c, e_dup, e_dup2, e_pop, e_goto, e_ifCond, e_if_icmp, e_tableswitch, e_lookupswitch, e_getfield_i, e_getfield_r, e_putfield_i, e_putfield_z, e_iaload, e_caload, e_aaload, e_iastore, e_castore, e_arraylength, e_invokestatic, e_invokevirtual, e_ireturn, e_return_, s_i_c, s_r_c, s_v_i, s_v_r, s_l_0, s_l_1, s_l_2, s_l_3, s_l_4, s_l_5, s_l_6, s_a_0, s_a_1, s_a_2, s_a_3, s_m_0, s_m_i, s_m_r, s_m_i7, s_m_r7, s_m_i6, s_m_r6, s_m_i5, s_m_r5, s_m_i4, s_m_r4, s_w_n, s_w_c, s_p_eq, s_p_ne, s_p_lt, s_p_ge, s_p_gt, s_p_le, nk_i, nk_z, nk_c, rf_s, ov_s, ov_n, fin0, fin1, fin2, fin3, cond_true, cond_false, List.set_cons_zero, List.set_cons_succ, List.length_cons, List.length_nil, true_and, and_true, true_or, or_true, implies_true, forall_const, not_true_eq_false, not_false_eq_true, false_implies, Nat.reduceAdd, Nat.reduceLT, Nat.reduceBEq, Nat.reduceEqDiff, Bool.or_false, Bool.false_or, Bool.or_true, Bool.true_or, beq_self_eq_true, Nat.reduceLeDiff, Nat.reduceMul, Nat.reduceSub, eq_self, Nat.reduceBneDiff, st0_s, st1_s, st2_s, st3_s, reduceCtorEq, cc_s, cc_0, tl_0, cl_0, il_0, tl_1, cl_1, il_1, tl_2, cl_2, il_2, tl_3, cl_3, il_3, tl_4, cl_4, il_4, tl_5, cl_5, il_5, tl_6, cl_6, il_6, tl_7, cl_7, il_7, tl_8, cl_8, il_8, tl_9, cl_9, il_9, tl_10, cl_10, il_10, tl_11, cl_11, il_11, tl_12, cl_12, il_12, tl_13, cl_13, il_13, tl_14, cl_14, il_14, tl_15, cl_15, il_15, tl_16, cl_16, il_16, tl_20, tl_21, tl_25, tl_32, tl_48, tl_50, tl_57, tl_58, tl_59, tl_60, tl_99, tl_100, tl_101, tl_108, tl_109, tl_116, tl_120, tl_126, tl_374, tl_1122, tl_50000, i10, i01, tl_m1, tl_m2, tl_m3, tl_m4, nr_X7_layBack, tX7_layBack_0, tX7_layBack_1, tX7_layBack_2, tX7_layBack_3, tX7_layBack_6, tX7_layBack_9, tX7_layBack_10, tX7_layBack_13, tX7_layBack_14, tX7_layBack_15, tX7_layBack_18, tX7_layBack_19, tX7_layBack_20, tX7_layBack_21, tX7_layBack_24, tX7_layBack_27, pw_QK_s, h1, h2, h3, h4, h5]
        try simp (disch := omega) only [ix_l, ix_n, ix_0, ix_1, ix_2, ix_3, ix_4, ix_5, ix_6, ix_7, ix_8, ix_9, ix_10, ix_11, ix_12, ix_13, ix_14, ix_15, ix_20, ix_100, ix_374, jx_100, jx_11, jx_374, kx_374, cl_nI, in_nI, Nat.add_zero, true_and, up_set, set_s, set_set, set_n, cpy_s0, cpy_sd, cpy_ss, nI_add]
        exact ⟨fun q => absurd q (nI_geL 374 (by omega) (by omega)), fun _ => ih (j + 1) (by omega)⟩
    have := loop _ 0 (Nat.zero_add _)
    rw [cpy_0, set_id] at this
    refine pw_go okX7_layBack (cc []) ⟨Nat.le_refl _, Nat.le_refl _⟩ cc_n (st1 2) 60 ?_
    simp only [vc_s, vq_s, vk_s, e_iconst, e_bipush, e_sipush, e_ldc, e_ldc_w, e_iload_n, e_iload, e_aload_n, e_aload, e_istore_n, e_istore, e_astore_n, e_astore, e_iinc, e_iadd, e_isub, e_imul, e_iand, e_ior, e_ixor, e_idiv, e_irem, e_ishl, e_ishr, e_iushr, e_i2c, e_dup, e_dup2, e_pop, e_goto, e_ifCond, e_if_icmp, e_tableswitch, e_lookupswitch, e_getfield_i, e_getfield_r, e_putfield_i, e_putfield_z, e_iaload, e_caload, e_aaload, e_iastore, e_castore, e_arraylength, e_invokestatic, e_invokevirtual, e_ireturn, e_return_, s_i_c, s_r_c, s_v_i, s_v_r, s_l_0, s_l_1, s_l_2, s_l_3, s_l_4, s_l_5, s_l_6, s_a_0, s_a_1, s_a_2, s_a_3, s_m_0, s_m_i, s_m_r, s_m_i7, s_m_r7, s_m_i6, s_m_r6, s_m_i5, s_m_r5, s_m_i4, s_m_r4, s_w_n, s_w_c, s_p_eq, s_p_ne, s_p_lt, s_p_ge, s_p_gt, s_p_le, nk_i, nk_z, nk_c, rf_s, ov_s, ov_n, fin0, fin1, fin2, fin3, cond_true, cond_false, List.set_cons_zero, List.set_cons_succ, List.length_cons, List.length_nil, true_and, and_true, true_or, or_true, implies_true, forall_const, not_true_eq_false, not_false_eq_true, false_implies, Nat.reduceAdd, Nat.reduceLT, Nat.reduceBEq, Nat.reduceEqDiff, Bool.or_false, Bool.false_or, Bool.or_true, Bool.true_or, beq_self_eq_true, Nat.reduceLeDiff, Nat.reduceMul, Nat.reduceSub, eq_self, Nat.reduceBneDiff, st0_s, st1_s, st2_s, st3_s, reduceCtorEq, cc_s, cc_0, tl_0, cl_0, il_0, tl_1, cl_1, il_1, tl_2, cl_2, il_2, tl_3, cl_3, il_3, tl_4, cl_4, il_4, tl_5, cl_5, il_5, tl_6, cl_6, il_6, tl_7, cl_7, il_7, tl_8, cl_8, il_8, tl_9, cl_9, il_9, tl_10, cl_10, il_10, tl_11, cl_11, il_11, tl_12, cl_12, il_12, tl_13, cl_13, il_13, tl_14, cl_14, il_14, tl_15, cl_15, il_15, tl_16, cl_16, il_16, tl_20, tl_21, tl_25, tl_32, tl_48, tl_50, tl_57, tl_58, tl_59, tl_60, tl_99, tl_100, tl_101, tl_108, tl_109, tl_116, tl_120, tl_126, tl_374, tl_1122, tl_50000, i10, i01, tl_m1, tl_m2, tl_m3, tl_m4, nr_X7_layBack, tX7_layBack_0, tX7_layBack_1, tX7_layBack_2, tX7_layBack_3, tX7_layBack_6, tX7_layBack_9, tX7_layBack_10, tX7_layBack_13, tX7_layBack_14, tX7_layBack_15, tX7_layBack_18, tX7_layBack_19, tX7_layBack_20, tX7_layBack_21, tX7_layBack_24, tX7_layBack_27, pw_QK_s, h1, h2, h3, h4, h5]
    exact this
  · exact h.elim
def w_record (m : Nat) : pw_Wp := fun Ag I K => match Ag with
  | [.ref o] => o = m ∧ (I m 8 = nI (vN (I m) 8) ∧ vN (I m) 8 ≤ 4) ∧ K none (recI m I)
  | _ => False
set_option maxRecDepth 100000 in
set_option maxHeartbeats 4000000 in
theorem x_record (hM : pw_mod sh P m) (h : w_record m Ag I K) : pw_ok mX7_record 0 base n sh P Ag I K := by
  unfold w_record at h
  split at h
  · rename_i o
    obtain ⟨rfl, hu, hA⟩ := h
    obtain ⟨h1, ⟨h2, h3⟩, ⟨h4, h5⟩, -⟩ := id hM
    refine pw_bd [_, _] pl_X7 c_r rfl rfl ?_
    have loop2 : ∀ (J : pw_I) (u : Nat), J o 8 = nI u → u ≤ 3 → K none (pw_set (pw_set J (o + 2) (va_cpy (J (o + 1)) (J (o + 2)) 0 (374 * u) 374)) o (upd (J o) 8 (nI (u + 1)))) → PW (mX7_record, 0, 0, 0, none, base) n sh P J 0 0 51 [some (.ref o), some (.int 0)] [] (pw_QK n sh P K) := by
      intro J u hJ hu4 hK
      have loop : ∀ (f j : Nat), j + f = 374 → PW (mX7_record, 0, 0, 0, none, base) n sh P (pw_set J (o + 2) (va_cpy (J (o + 1)) (J (o + 2)) 0 (374 * u) j)) 0 0 51 [some (.ref o), some (.int (nI j))] [] (pw_QK n sh P K) := by
        intro f
        induction f with
        | zero =>
          intro j hj
          obtain rfl : j = 374 := by omega
          refine pw_go okX7_record (cc []) ⟨Nat.le_refl _, Nat.le_refl _⟩ cc_n (st1 51) 90 ?_
          simp only [vc_s, vq_s, vk_s, e_iconst, e_bipush, e_sipush, e_ldc, e_ldc_w, e_iload_n, e_iload, e_aload_n, e_aload, e_istore_n, e_istore, e_astore_n, e_astore, e_iinc, e_iadd, e_isub, e_imul, e_iand, e_ior, e_ixor, e_idiv, e_irem, e_ishl, e_ishr, e_iushr, e_i2c, e_dup, e_dup2, e_pop, e_goto, e_ifCond, e_if_icmp, e_tableswitch, e_lookupswitch, e_getfield_i, e_getfield_r, e_putfield_i, e_putfield_z, e_iaload, e_caload, e_aaload, e_iastore, e_castore, e_arraylength, e_invokestatic, e_invokevirtual, e_ireturn, e_return_, s_i_c, s_r_c, s_v_i, s_v_r, s_l_0, s_l_1, s_l_2, s_l_3, s_l_4, s_l_5, s_l_6, s_a_0, s_a_1, s_a_2, s_a_3, s_m_0, s_m_i, s_m_r, s_m_i7, s_m_r7, s_m_i6, s_m_r6, s_m_i5, s_m_r5, s_m_i4, s_m_r4, s_w_n, s_w_c, s_p_eq, s_p_ne, s_p_lt, s_p_ge, s_p_gt, s_p_le, nk_i, nk_z, nk_c, rf_s, ov_s, ov_n, fin0, fin1, fin2, fin3, cond_true, cond_false, List.set_cons_zero, List.set_cons_succ, List.length_cons, List.length_nil, true_and, and_true, true_or, or_true, implies_true, forall_const, not_true_eq_false, not_false_eq_true, false_implies, Nat.reduceAdd, Nat.reduceLT, Nat.reduceBEq, Nat.reduceEqDiff, Bool.or_false, Bool.false_or, Bool.or_true, Bool.true_or, beq_self_eq_true, Nat.reduceLeDiff, Nat.reduceMul, Nat.reduceSub, eq_self, Nat.reduceBneDiff, st0_s, st1_s, st2_s, st3_s, reduceCtorEq, cc_s, cc_0, tl_0, cl_0, il_0, tl_1, cl_1, il_1, tl_2, cl_2, il_2, tl_3, cl_3, il_3, tl_4, cl_4, il_4, tl_5, cl_5, il_5, tl_6, cl_6, il_6, tl_7, cl_7, il_7, tl_8, cl_8, il_8, tl_9, cl_9, il_9, tl_10, cl_10, il_10, tl_11, cl_11, il_11, tl_12, cl_12, il_12, tl_13, cl_13, il_13, tl_14, cl_14, il_14, tl_15, cl_15, il_15, tl_16, cl_16, il_16, tl_20, tl_21, tl_25, tl_32, tl_48, tl_50, tl_57, tl_58, tl_59, tl_60, tl_99, tl_100, tl_101, tl_108, tl_109, tl_116, tl_120, tl_126, tl_374, tl_1122, tl_50000, i10, i01, tl_m1, tl_m2, tl_m3, tl_m4, nr_X7_record, tX7_record_0, tX7_record_1, tX7_record_4, tX7_record_5, tX7_record_8, tX7_record_9, tX7_record_10, tX7_record_11, tX7_record_14, tX7_record_17, tX7_record_18, tX7_record_21, tX7_record_22, tX7_record_23, tX7_record_26, tX7_record_29, tX7_record_30, tX7_record_31, tX7_record_32, tX7_record_33, tX7_record_36, tX7_record_39, tX7_record_40, tX7_record_41, tX7_record_44, tX7_record_45, tX7_record_46, tX7_record_49, tX7_record_50, tX7_record_51, tX7_record_52, tX7_record_55, tX7_record_58, tX7_record_59, tX7_record_62, tX7_record_65, tX7_record_66, tX7_record_69, tX7_record_70, tX7_record_71, tX7_record_72, tX7_record_73, tX7_record_76, tX7_record_77, tX7_record_78, tX7_record_79, tX7_record_82, tX7_record_85, tX7_record_86, tX7_record_87, tX7_record_90, tX7_record_91, tX7_record_92, tX7_record_95, pw_QK_s, h1, h2, h3, h4, h5]
          try simp (disch := omega) only [ix_l, ix_n, ix_0, ix_1, ix_2, ix_3, ix_4, ix_5, ix_6, ix_7, ix_8, ix_9, ix_10, ix_11, ix_12, ix_13, ix_14, ix_15, ix_20, ix_100, ix_374, jx_100, jx_11, jx_374, kx_374, cl_nI, in_nI, Nat.add_zero, true_and, up_set, set_s, set_set, set_n, cpy_s0, cpy_sd, cpy_ss, nI_add, hJ, nI_add]
          exact ⟨fun _ => hK, fun q => absurd (by decide) q⟩
        | succ f ih =>
          intro j hj
          refine pw_go okX7_record (cc []) ⟨Nat.le_refl _, Nat.le_refl _⟩ cc_n (st1 51) 90 ?_
          simp only [vc_s, vq_s, vk_s, e_iconst, e_bipush, e_sipush, e_ldc, e_ldc_w, e_iload_n, e_iload, e_aload_n, e_aload, e_istore_n, e_istore, e_astore_n, e_astore, e_iinc, e_iadd, e_isub, e_imul, e_iand, e_ior, e_ixor, e_idiv, e_irem, e_ishl, e_ishr, e_iushr, e_i2c, e_dup, e_dup2, e_pop, e_goto, e_ifCond, e_if_icmp, e_tableswitch, e_lookupswitch, e_getfield_i, e_getfield_r, e_putfield_i, e_putfield_z, e_iaload, e_caload, e_aaload, e_iastore, e_castore, e_arraylength, e_invokestatic, e_invokevirtual, e_ireturn, e_return_, s_i_c, s_r_c, s_v_i, s_v_r, s_l_0, s_l_1, s_l_2, s_l_3, s_l_4, s_l_5, s_l_6, s_a_0, s_a_1, s_a_2, s_a_3, s_m_0, s_m_i, s_m_r, s_m_i7, s_m_r7, s_m_i6, s_m_r6, s_m_i5, s_m_r5, s_m_i4, s_m_r4, s_w_n, s_w_c, s_p_eq, s_p_ne, s_p_lt, s_p_ge, s_p_gt, s_p_le, nk_i, nk_z, nk_c, rf_s, ov_s, ov_n, fin0, fin1, fin2, fin3, cond_true, cond_false, List.set_cons_zero, List.set_cons_succ, List.length_cons, List.length_nil, true_and, and_true, true_or, or_true, implies_true, forall_const, not_true_eq_false, not_false_eq_true, false_implies, Nat.reduceAdd, Nat.reduceLT, Nat.reduceBEq, Nat.reduceEqDiff, Bool.or_false, Bool.false_or, Bool.or_true, Bool.true_or, beq_self_eq_true, Nat.reduceLeDiff, Nat.reduceMul, Nat.reduceSub, eq_self, Nat.reduceBneDiff, st0_s, st1_s, st2_s, st3_s, reduceCtorEq, cc_s, cc_0, tl_0, cl_0, il_0, tl_1, cl_1, il_1, tl_2, cl_2, il_2, tl_3, cl_3, il_3, tl_4, cl_4, il_4, tl_5, cl_5, il_5, tl_6, cl_6, il_6, tl_7, cl_7, il_7, tl_8, cl_8, il_8, tl_9, cl_9, il_9, tl_10, cl_10, il_10, tl_11, cl_11, il_11, tl_12, cl_12, il_12, tl_13, cl_13, il_13, tl_14, cl_14, il_14, tl_15, cl_15, il_15, tl_16, cl_16, il_16, tl_20, tl_21, tl_25, tl_32, tl_48, tl_50, tl_57, tl_58, tl_59, tl_60, tl_99, tl_100, tl_101, tl_108, tl_109, tl_116, tl_120, tl_126, tl_374, tl_1122, tl_50000, i10, i01, tl_m1, tl_m2, tl_m3, tl_m4, nr_X7_record, tX7_record_0, tX7_record_1, tX7_record_4, tX7_record_5, tX7_record_8, tX7_record_9, tX7_record_10, tX7_record_11, tX7_record_14, tX7_record_17, tX7_record_18, tX7_record_21, tX7_record_22, tX7_record_23, tX7_record_26, tX7_record_29, tX7_record_30, tX7_record_31, tX7_record_32, tX7_record_33, tX7_record_36, tX7_record_39, tX7_record_40, tX7_record_41, tX7_record_44, tX7_record_45, tX7_record_46, tX7_record_49, tX7_record_50, tX7_record_51, tX7_record_52, tX7_record_55, tX7_record_58, tX7_record_59, tX7_record_62, tX7_record_65, tX7_record_66, tX7_record_69, tX7_record_70, tX7_record_71, tX7_record_72, tX7_record_73, tX7_record_76, tX7_record_77, tX7_record_78, tX7_record_79, tX7_record_82, tX7_record_85, tX7_record_86, tX7_record_87, tX7_record_90, tX7_record_91, tX7_record_92, tX7_record_95, pw_QK_s, h1, h2, h3, h4, h5]
          try simp (disch := omega) only [ix_l, ix_n, ix_0, ix_1, ix_2, ix_3, ix_4, ix_5, ix_6, ix_7, ix_8, ix_9, ix_10, ix_11, ix_12, ix_13, ix_14, ix_15, ix_20, ix_100, ix_374, jx_100, jx_11, jx_374, kx_374, cl_nI, in_nI, Nat.add_zero, true_and, up_set, set_s, set_set, set_n, cpy_s0, cpy_sd, cpy_ss, nI_add, hJ, nI_add]
          exact ⟨fun q => absurd q (nI_geL 374 (by omega) (by omega)), fun _ => ih (j + 1) (by omega)⟩
      have := loop _ 0 (Nat.zero_add _)
      rw [cpy_0, set_id] at this
      exact this
    refine pw_go okX7_record (cc []) ⟨Nat.le_refl _, Nat.le_refl _⟩ cc_n (st2 10 51) 60 ?_
    simp only [vc_s, vq_s, vk_s, e_iconst, e_bipush, e_sipush, e_ldc, e_ldc_w, e_iload_n, e_iload, e_aload_n, e_aload, e_istore_n, e_istore, e_astore_n, e_astore, e_iinc, e_iadd, e_isub, e_imul, e_iand, e_ior, e_ixor, e_idiv, e_irem, e_ishl, e_ishr, e_iushr, e_i2c, e_dup, e_dup2, e_pop, e_goto, e_ifCond, e_if_icmp, e_tableswitch, e_lookupswitch, e_getfield_i, e_getfield_r, e_putfield_i, e_putfield_z, e_iaload, e_caload, e_aaload, e_iastore, e_castore, e_arraylength, e_invokestatic, e_invokevirtual, e_ireturn, e_return_, s_i_c, s_r_c, s_v_i, s_v_r, s_l_0, s_l_1, s_l_2, s_l_3, s_l_4, s_l_5, s_l_6, s_a_0, s_a_1, s_a_2, s_a_3, s_m_0, s_m_i, s_m_r, s_m_i7, s_m_r7, s_m_i6, s_m_r6, s_m_i5, s_m_r5, s_m_i4, s_m_r4, s_w_n, s_w_c, s_p_eq, s_p_ne, s_p_lt, s_p_ge, s_p_gt, s_p_le, nk_i, nk_z, nk_c, rf_s, ov_s, ov_n, fin0, fin1, fin2, fin3, cond_true, cond_false, List.set_cons_zero, List.set_cons_succ, List.length_cons, List.length_nil, true_and, and_true, true_or, or_true, implies_true, forall_const, not_true_eq_false, not_false_eq_true, false_implies, Nat.reduceAdd, Nat.reduceLT, Nat.reduceBEq, Nat.reduceEqDiff, Bool.or_false, Bool.false_or, Bool.or_true, Bool.true_or, beq_self_eq_true, Nat.reduceLeDiff, Nat.reduceMul, Nat.reduceSub, eq_self, Nat.reduceBneDiff, st0_s, st1_s, st2_s, st3_s, reduceCtorEq, cc_s, cc_0, tl_0, cl_0, il_0, tl_1, cl_1, il_1, tl_2, cl_2, il_2, tl_3, cl_3, il_3, tl_4, cl_4, il_4, tl_5, cl_5, il_5, tl_6, cl_6, il_6, tl_7, cl_7, il_7, tl_8, cl_8, il_8, tl_9, cl_9, il_9, tl_10, cl_10, il_10, tl_11, cl_11, il_11, tl_12, cl_12, il_12, tl_13, cl_13, il_13, tl_14, cl_14, il_14, tl_15, cl_15, il_15, tl_16, cl_16, il_16, tl_20, tl_21, tl_25, tl_32, tl_48, tl_50, tl_57, tl_58, tl_59, tl_60, tl_99, tl_100, tl_101, tl_108, tl_109, tl_116, tl_120, tl_126, tl_374, tl_1122, tl_50000, i10, i01, tl_m1, tl_m2, tl_m3, tl_m4, nr_X7_record, tX7_record_0, tX7_record_1, tX7_record_4, tX7_record_5, tX7_record_8, tX7_record_9, tX7_record_10, tX7_record_11, tX7_record_14, tX7_record_17, tX7_record_18, tX7_record_21, tX7_record_22, tX7_record_23, tX7_record_26, tX7_record_29, tX7_record_30, tX7_record_31, tX7_record_32, tX7_record_33, tX7_record_36, tX7_record_39, tX7_record_40, tX7_record_41, tX7_record_44, tX7_record_45, tX7_record_46, tX7_record_49, tX7_record_50, tX7_record_51, tX7_record_52, tX7_record_55, tX7_record_58, tX7_record_59, tX7_record_62, tX7_record_65, tX7_record_66, tX7_record_69, tX7_record_70, tX7_record_71, tX7_record_72, tX7_record_73, tX7_record_76, tX7_record_77, tX7_record_78, tX7_record_79, tX7_record_82, tX7_record_85, tX7_record_86, tX7_record_87, tX7_record_90, tX7_record_91, tX7_record_92, tX7_record_95, pw_QK_s, h1, h2, h3, h4, h5]
    unfold recI recB recU at hA
    obtain ⟨hu1, hu2⟩ := hu
    rw [hu1, show (4 : Int32) = nI 4 from rfl, nI_eq (by omega) (by omega)]
    refine ⟨fun q => loop2 I _ hu1 (by omega) ?_, fun q => ?_⟩
    · rw [if_neg q, if_neg q] at hA
      exact hA
    · rw [if_pos q, if_pos q] at hA
      rw [q] at hu1
      have loop : ∀ (f j : Nat), j + f = 1122 → PW (mX7_record, 0, 0, 0, none, base) n sh P (pw_set I (o + 2) (va_cpy (I (o + 2)) (I (o + 2)) 374 0 j)) 0 0 10 [some (.ref o), some (.int (nI j))] [] (pw_QK n sh P K) := by
        intro f
        induction f with
        | zero =>
          intro j hj
          obtain rfl : j = 1122 := by omega
          refine pw_go okX7_record (cc []) ⟨Nat.le_refl _, Nat.le_refl _⟩ cc_n (st2 10 51) 90 ?_
          simp only [vc_s, vq_s, vk_s, e_iconst, e_bipush, e_sipush, e_ldc, e_ldc_w, e_iload_n, e_iload, e_aload_n, e_aload, e_istore_n, e_istore, e_astore_n, e_astore, e_iinc, e_iadd, e_isub, e_imul, e_iand, e_ior, e_ixor, e_idiv, e_irem, e_ishl, e_ishr, e_iushr, e_i2c, e_dup, e_dup2, e_pop, e_goto, e_ifCond, e_if_icmp, e_tableswitch, e_lookupswitch, e_getfield_i, e_getfield_r, e_putfield_i, e_putfield_z, e_iaload, e_caload, e_aaload, e_iastore, e_castore, e_arraylength, e_invokestatic, e_invokevirtual, e_ireturn, e_return_, s_i_c, s_r_c, s_v_i, s_v_r, s_l_0, s_l_1, s_l_2, s_l_3, s_l_4, s_l_5, s_l_6, s_a_0, s_a_1, s_a_2, s_a_3, s_m_0, s_m_i, s_m_r, s_m_i7, s_m_r7, s_m_i6, s_m_r6, s_m_i5, s_m_r5, s_m_i4, s_m_r4, s_w_n, s_w_c, s_p_eq, s_p_ne, s_p_lt, s_p_ge, s_p_gt, s_p_le, nk_i, nk_z, nk_c, rf_s, ov_s, ov_n, fin0, fin1, fin2, fin3, cond_true, cond_false, List.set_cons_zero, List.set_cons_succ, List.length_cons, List.length_nil, true_and, and_true, true_or, or_true, implies_true, forall_const, not_true_eq_false, not_false_eq_true, false_implies, Nat.reduceAdd, Nat.reduceLT, Nat.reduceBEq, Nat.reduceEqDiff, Bool.or_false, Bool.false_or, Bool.or_true, Bool.true_or, beq_self_eq_true, Nat.reduceLeDiff, Nat.reduceMul, Nat.reduceSub, eq_self, Nat.reduceBneDiff, st0_s, st1_s, st2_s, st3_s, reduceCtorEq, cc_s, cc_0, tl_0, cl_0, il_0, tl_1, cl_1, il_1, tl_2, cl_2, il_2, tl_3, cl_3, il_3, tl_4, cl_4, il_4, tl_5, cl_5, il_5, tl_6, cl_6, il_6, tl_7, cl_7, il_7, tl_8, cl_8, il_8, tl_9, cl_9, il_9, tl_10, cl_10, il_10, tl_11, cl_11, il_11, tl_12, cl_12, il_12, tl_13, cl_13, il_13, tl_14, cl_14, il_14, tl_15, cl_15, il_15, tl_16, cl_16, il_16, tl_20, tl_21, tl_25, tl_32, tl_48, tl_50, tl_57, tl_58, tl_59, tl_60, tl_99, tl_100, tl_101, tl_108, tl_109, tl_116, tl_120, tl_126, tl_374, tl_1122, tl_50000, i10, i01, tl_m1, tl_m2, tl_m3, tl_m4, nr_X7_record, tX7_record_0, tX7_record_1, tX7_record_4, tX7_record_5, tX7_record_8, tX7_record_9, tX7_record_10, tX7_record_11, tX7_record_14, tX7_record_17, tX7_record_18, tX7_record_21, tX7_record_22, tX7_record_23, tX7_record_26, tX7_record_29, tX7_record_30, tX7_record_31, tX7_record_32, tX7_record_33, tX7_record_36, tX7_record_39, tX7_record_40, tX7_record_41, tX7_record_44, tX7_record_45, tX7_record_46, tX7_record_49, tX7_record_50, tX7_record_51, tX7_record_52, tX7_record_55, tX7_record_58, tX7_record_59, tX7_record_62, tX7_record_65, tX7_record_66, tX7_record_69, tX7_record_70, tX7_record_71, tX7_record_72, tX7_record_73, tX7_record_76, tX7_record_77, tX7_record_78, tX7_record_79, tX7_record_82, tX7_record_85, tX7_record_86, tX7_record_87, tX7_record_90, tX7_record_91, tX7_record_92, tX7_record_95, pw_QK_s, h1, h2, h3, h4, h5]
          try simp (disch := omega) only [ix_l, ix_n, ix_0, ix_1, ix_2, ix_3, ix_4, ix_5, ix_6, ix_7, ix_8, ix_9, ix_10, ix_11, ix_12, ix_13, ix_14, ix_15, ix_20, ix_100, ix_374, jx_100, jx_11, jx_374, kx_374, cl_nI, in_nI, Nat.add_zero, true_and, up_set, set_s, set_set, set_n, cpy_s0, cpy_sd, cpy_ss, nI_add, cpy_hi, hu1]
          refine ⟨fun _ => loop2 _ 3 ?_ (by omega) ?_, fun q => absurd (by decide) q⟩
          · rw [set_s, upd_s]; rfl
          · simp (disch := omega) only [set_s, set_n]; rw [set_comm (a := o) (b := o + 2) (by omega), set_set, set_set, upd_upd]; exact hA
        | succ f ih =>
          intro j hj
          refine pw_go okX7_record (cc []) ⟨Nat.le_refl _, Nat.le_refl _⟩ cc_n (st2 10 51) 90 ?_
          simp only [vc_s, vq_s, vk_s, e_iconst, e_bipush, e_sipush, e_ldc, e_ldc_w, e_iload_n, e_iload, e_aload_n, e_aload, e_istore_n, e_istore, e_astore_n, e_astore, e_iinc, e_iadd, e_isub, e_imul, e_iand, e_ior, e_ixor, e_idiv, e_irem, e_ishl, e_ishr, e_iushr, e_i2c, e_dup, e_dup2, e_pop, e_goto, e_ifCond, e_if_icmp, e_tableswitch, e_lookupswitch, e_getfield_i, e_getfield_r, e_putfield_i, e_putfield_z, e_iaload, e_caload, e_aaload, e_iastore, e_castore, e_arraylength, e_invokestatic, e_invokevirtual, e_ireturn, e_return_, s_i_c, s_r_c, s_v_i, s_v_r, s_l_0, s_l_1, s_l_2, s_l_3, s_l_4, s_l_5, s_l_6, s_a_0, s_a_1, s_a_2, s_a_3, s_m_0, s_m_i, s_m_r, s_m_i7, s_m_r7, s_m_i6, s_m_r6, s_m_i5, s_m_r5, s_m_i4, s_m_r4, s_w_n, s_w_c, s_p_eq, s_p_ne, s_p_lt, s_p_ge, s_p_gt, s_p_le, nk_i, nk_z, nk_c, rf_s, ov_s, ov_n, fin0, fin1, fin2, fin3, cond_true, cond_false, List.set_cons_zero, List.set_cons_succ, List.length_cons, List.length_nil, true_and, and_true, true_or, or_true, implies_true, forall_const, not_true_eq_false, not_false_eq_true, false_implies, Nat.reduceAdd, Nat.reduceLT, Nat.reduceBEq, Nat.reduceEqDiff, Bool.or_false, Bool.false_or, Bool.or_true, Bool.true_or, beq_self_eq_true, Nat.reduceLeDiff, Nat.reduceMul, Nat.reduceSub, eq_self, Nat.reduceBneDiff, st0_s, st1_s, st2_s, st3_s, reduceCtorEq, cc_s, cc_0, tl_0, cl_0, il_0, tl_1, cl_1, il_1, tl_2, cl_2, il_2, tl_3, cl_3, il_3, tl_4, cl_4, il_4, tl_5, cl_5, il_5, tl_6, cl_6, il_6, tl_7, cl_7, il_7, tl_8, cl_8, il_8, tl_9, cl_9, il_9, tl_10, cl_10, il_10, tl_11, cl_11, il_11, tl_12, cl_12, il_12, tl_13, cl_13, il_13, tl_14, cl_14, il_14, tl_15, cl_15, il_15, tl_16, cl_16, il_16, tl_20, tl_21, tl_25, tl_32, tl_48, tl_50, tl_57, tl_58, tl_59, tl_60, tl_99, tl_100, tl_101, tl_108, tl_109, tl_116, tl_120, tl_126, tl_374, tl_1122, tl_50000, i10, i01, tl_m1, tl_m2, tl_m3, tl_m4, nr_X7_record, tX7_record_0, tX7_record_1, tX7_record_4, tX7_record_5, tX7_record_8, tX7_record_9, tX7_record_10, tX7_record_11, tX7_record_14, tX7_record_17, tX7_record_18, tX7_record_21, tX7_record_22, tX7_record_23, tX7_record_26, tX7_record_29, tX7_record_30, tX7_record_31, tX7_record_32, tX7_record_33, tX7_record_36, tX7_record_39, tX7_record_40, tX7_record_41, tX7_record_44, tX7_record_45, tX7_record_46, tX7_record_49, tX7_record_50, tX7_record_51, tX7_record_52, tX7_record_55, tX7_record_58, tX7_record_59, tX7_record_62, tX7_record_65, tX7_record_66, tX7_record_69, tX7_record_70, tX7_record_71, tX7_record_72, tX7_record_73, tX7_record_76, tX7_record_77, tX7_record_78, tX7_record_79, tX7_record_82, tX7_record_85, tX7_record_86, tX7_record_87, tX7_record_90, tX7_record_91, tX7_record_92, tX7_record_95, pw_QK_s, h1, h2, h3, h4, h5]
          try simp (disch := omega) only [ix_l, ix_n, ix_0, ix_1, ix_2, ix_3, ix_4, ix_5, ix_6, ix_7, ix_8, ix_9, ix_10, ix_11, ix_12, ix_13, ix_14, ix_15, ix_20, ix_100, ix_374, jx_100, jx_11, jx_374, kx_374, cl_nI, in_nI, Nat.add_zero, true_and, up_set, set_s, set_set, set_n, cpy_s0, cpy_sd, cpy_ss, nI_add, cpy_hi, hu1]
          exact ⟨fun q => absurd q (nI_geL 1122 (by omega) (by omega)), fun _ => ih (j + 1) (by omega)⟩
      have := loop _ 0 (Nat.zero_add _)
      rw [cpy_0, set_id] at this
      exact this
  · exact h.elim
/-- the state kept last is brought back -/
def w_undo (m : Nat) : pw_Wp := fun Ag I K => match Ag with
  | [.ref o] => o = m ∧ (I m 8 = nI (vN (I m) 8) ∧ vN (I m) 8 ≤ 4) ∧ (vN (I m) 8 = 0 → K (some (.int (-2))) I) ∧ (∀ u, vN (I m) 8 = u + 1 → K (some (.int (nI u))) (pw_set (pw_set I m (upd (I m) 8 (nI u))) (m + 1) (va_cpy (I (m + 2)) (I (m + 1)) (374 * u) 0 374)))
  | _ => False
set_option maxRecDepth 100000 in
set_option maxHeartbeats 4000000 in
theorem x_undo7 (hM : pw_mod sh P m) (h : w_undo m Ag I K) : pw_ok mX7_undo 0 base n sh P Ag I K := by
  unfold w_undo at h
  split at h
  · rename_i o
    obtain ⟨rfl, ⟨hu1, hu2⟩, hA, hB⟩ := h
    obtain ⟨h1, ⟨h2, h3⟩, ⟨h4, h5⟩, -⟩ := id hM
    refine pw_bd [_, _] pl_X7 c_r rfl rfl ?_
    by_cases q : vN (I o) 8 = 0
    · rw [q] at hu1
      refine pw_go okX7_undo (cc []) ⟨Nat.le_refl _, Nat.le_refl _⟩ cc_n (st0) 60 ?_
      simp only [vc_s, vq_s, vk_s, e_iconst, e_bipush, e_sipush, e_ldc, e_ldc_w, e_iload_n, e_iload, e_aload_n, e_aload, e_istore_n, e_istore, e_astore_n, e_astore, e_iinc, e_iadd, e_isub, e_imul, e_iand, e_ior, e_ixor, e_idiv, e_irem, e_ishl, e_ishr, e_iushr, e_i2c, e_dup, e_dup2, e_pop, e_goto, e_ifCond, e_if_icmp, e_tableswitch, e_lookupswitch, e_getfield_i, e_getfield_r, e_putfield_i, e_putfield_z, e_iaload, e_caload, e_aaload, e_iastore, e_castore, e_arraylength, e_invokestatic, e_invokevirtual, e_ireturn, e_return_, s_i_c, s_r_c, s_v_i, s_v_r, s_l_0, s_l_1, s_l_2, s_l_3, s_l_4, s_l_5, s_l_6, s_a_0, s_a_1, s_a_2, s_a_3, s_m_0, s_m_i, s_m_r, s_m_i7, s_m_r7, s_m_i6, s_m_r6, s_m_i5, s_m_r5, s_m_i4, s_m_r4, s_w_n, s_w_c, s_p_eq, s_p_ne, s_p_lt, s_p_ge, s_p_gt, s_p_le, nk_i, nk_z, nk_c, rf_s, ov_s, ov_n, fin0, fin1, fin2, fin3, cond_true, cond_false, List.set_cons_zero, List.set_cons_succ, List.length_cons, List.length_nil, true_and, and_true, true_or, or_true, implies_true, forall_const, not_true_eq_false, not_false_eq_true, false_implies, Nat.reduceAdd, Nat.reduceLT, Nat.reduceBEq, Nat.reduceEqDiff, Bool.or_false, Bool.false_or, Bool.or_true, Bool.true_or, beq_self_eq_true, Nat.reduceLeDiff, Nat.reduceMul, Nat.reduceSub, eq_self, Nat.reduceBneDiff, st0_s, st1_s, st2_s, st3_s, reduceCtorEq, cc_s, cc_0, tl_0, cl_0, il_0, tl_1, cl_1, il_1, tl_2, cl_2, il_2, tl_3, cl_3, il_3, tl_4, cl_4, il_4, tl_5, cl_5, il_5, tl_6, cl_6, il_6, tl_7, cl_7, il_7, tl_8, cl_8, il_8, tl_9, cl_9, il_9, tl_10, cl_10, il_10, tl_11, cl_11, il_11, tl_12, cl_12, il_12, tl_13, cl_13, il_13, tl_14, cl_14, il_14, tl_15, cl_15, il_15, tl_16, cl_16, il_16, tl_20, tl_21, tl_25, tl_32, tl_48, tl_50, tl_57, tl_58, tl_59, tl_60, tl_99, tl_100, tl_101, tl_108, tl_109, tl_116, tl_120, tl_126, tl_374, tl_1122, tl_50000, i10, i01, tl_m1, tl_m2, tl_m3, tl_m4, nr_X7_undo, tX7_undo_0, tX7_undo_1, tX7_undo_4, tX7_undo_7, tX7_undo_9, tX7_undo_10, tX7_undo_11, tX7_undo_12, tX7_undo_15, tX7_undo_16, tX7_undo_17, tX7_undo_20, tX7_undo_21, tX7_undo_22, tX7_undo_23, tX7_undo_26, tX7_undo_29, tX7_undo_30, tX7_undo_33, tX7_undo_34, tX7_undo_35, tX7_undo_38, tX7_undo_41, tX7_undo_42, tX7_undo_45, tX7_undo_46, tX7_undo_47, tX7_undo_48, tX7_undo_49, tX7_undo_50, tX7_undo_53, tX7_undo_56, tX7_undo_57, tX7_undo_60, pw_QK_s, h1, h2, h3, h4, h5, hu1]
      exact ⟨fun q => absurd rfl q, fun _ => hA q⟩
    · obtain ⟨u, hu⟩ : ∃ u, vN (I o) 8 = u + 1 := ⟨vN (I o) 8 - 1, by omega⟩
      rw [hu] at hu1
      have hB := hB u hu
      have loop : ∀ (f j : Nat), j + f = 374 → PW (mX7_undo, 0, 0, 0, none, base) n sh P (pw_set (pw_set I o (upd (I o) 8 (nI u))) (o + 1) (va_cpy (I (o + 2)) (I (o + 1)) (374 * u) 0 j)) 0 0 22 [some (.ref o), some (.int (nI j))] [] (pw_QK n sh P K) := by
        intro f
        induction f with
        | zero =>
          intro j hj
          obtain rfl : j = 374 := by omega
          refine pw_go okX7_undo (cc []) ⟨Nat.le_refl _, Nat.le_refl _⟩ cc_n (st1 22) 90 ?_
          simp only [vc_s, vq_s, vk_s, e_iconst, e_bipush, e_sipush, e_ldc, e_ldc_w, e_iload_n, e_iload, e_aload_n, e_aload, e_istore_n, e_istore, e_astore_n, e_astore, e_iinc, e_iadd, e_isub, e_imul, e_iand, e_ior, e_ixor, e_idiv, e_irem, e_ishl, e_ishr, e_iushr, e_i2c, e_dup, e_dup2, e_pop, e_goto, e_ifCond, e_if_icmp, e_tableswitch, e_lookupswitch, e_getfield_i, e_getfield_r, e_putfield_i, e_putfield_z, e_iaload, e_caload, e_aaload, e_iastore, e_castore, e_arraylength, e_invokestatic, e_invokevirtual, e_ireturn, e_return_, s_i_c, s_r_c, s_v_i, s_v_r, s_l_0, s_l_1, s_l_2, s_l_3, s_l_4, s_l_5, s_l_6, s_a_0, s_a_1, s_a_2, s_a_3, s_m_0, s_m_i, s_m_r, s_m_i7, s_m_r7, s_m_i6, s_m_r6, s_m_i5, s_m_r5, s_m_i4, s_m_r4, s_w_n, s_w_c, s_p_eq, s_p_ne, s_p_lt, s_p_ge, s_p_gt, s_p_le, nk_i, nk_z, nk_c, rf_s, ov_s, ov_n, fin0, fin1, fin2, fin3, cond_true, cond_false, List.set_cons_zero, List.set_cons_succ, List.length_cons, List.length_nil, true_and, and_true, true_or, or_true, implies_true, forall_const, not_true_eq_false, not_false_eq_true, false_implies, Nat.reduceAdd, Nat.reduceLT, Nat.reduceBEq, Nat.reduceEqDiff, Bool.or_false, Bool.false_or, Bool.or_true, Bool.true_or, beq_self_eq_true, Nat.reduceLeDiff, Nat.reduceMul, Nat.reduceSub, eq_self, Nat.reduceBneDiff, st0_s, st1_s, st2_s, st3_s, reduceCtorEq, cc_s, cc_0, tl_0, cl_0, il_0, tl_1, cl_1, il_1, tl_2, cl_2, il_2, tl_3, cl_3, il_3, tl_4, cl_4, il_4, tl_5, cl_5, il_5, tl_6, cl_6, il_6, tl_7, cl_7, il_7, tl_8, cl_8, il_8, tl_9, cl_9, il_9, tl_10, cl_10, il_10, tl_11, cl_11, il_11, tl_12, cl_12, il_12, tl_13, cl_13, il_13, tl_14, cl_14, il_14, tl_15, cl_15, il_15, tl_16, cl_16, il_16, tl_20, tl_21, tl_25, tl_32, tl_48, tl_50, tl_57, tl_58, tl_59, tl_60, tl_99, tl_100, tl_101, tl_108, tl_109, tl_116, tl_120, tl_126, tl_374, tl_1122, tl_50000, i10, i01, tl_m1, tl_m2, tl_m3, tl_m4, nr_X7_undo, tX7_undo_0, tX7_undo_1, tX7_undo_4, tX7_undo_7, tX7_undo_9, tX7_undo_10, tX7_undo_11, tX7_undo_12, tX7_undo_15, tX7_undo_16, tX7_undo_17, tX7_undo_20, tX7_undo_21, tX7_undo_22, tX7_undo_23, tX7_undo_26, tX7_undo_29, tX7_undo_30, tX7_undo_33, tX7_undo_34, tX7_undo_35, tX7_undo_38, tX7_undo_41, tX7_undo_42, tX7_undo_45, tX7_undo_46, tX7_undo_47, tX7_undo_48, tX7_undo_49, tX7_undo_50, tX7_undo_53, tX7_undo_56, tX7_undo_57, tX7_undo_60, pw_QK_s, h1, h2, h3, h4, h5]
          try simp (disch := omega) only [ix_l, ix_n, ix_0, ix_1, ix_2, ix_3, ix_4, ix_5, ix_6, ix_7, ix_8, ix_9, ix_10, ix_11, ix_12, ix_13, ix_14, ix_15, ix_20, ix_100, ix_374, jx_100, jx_11, jx_374, kx_374, cl_nI, in_nI, Nat.add_zero, true_and, up_set, set_s, set_set, set_n, cpy_s0, cpy_sd, cpy_ss, nI_add, upd_s]
          exact ⟨fun _ => hB, fun q => absurd (by decide) q⟩
        | succ f ih =>
          intro j hj
          refine pw_go okX7_undo (cc []) ⟨Nat.le_refl _, Nat.le_refl _⟩ cc_n (st1 22) 90 ?_
          simp only [vc_s, vq_s, vk_s, e_iconst, e_bipush, e_sipush, e_ldc, e_ldc_w, e_iload_n, e_iload, e_aload_n, e_aload, e_istore_n, e_istore, e_astore_n, e_astore, e_iinc, e_iadd, e_isub, e_imul, e_iand, e_ior, e_ixor, e_idiv, e_irem, e_ishl, e_ishr, e_iushr, e_i2c, e_dup, e_dup2, e_pop, e_goto, e_ifCond, e_if_icmp, e_tableswitch, e_lookupswitch, e_getfield_i, e_getfield_r, e_putfield_i, e_putfield_z, e_iaload, e_caload, e_aaload, e_iastore, e_castore, e_arraylength, e_invokestatic, e_invokevirtual, e_ireturn, e_return_, s_i_c, s_r_c, s_v_i, s_v_r, s_l_0, s_l_1, s_l_2, s_l_3, s_l_4, s_l_5, s_l_6, s_a_0, s_a_1, s_a_2, s_a_3, s_m_0, s_m_i, s_m_r, s_m_i7, s_m_r7, s_m_i6, s_m_r6, s_m_i5, s_m_r5, s_m_i4, s_m_r4, s_w_n, s_w_c, s_p_eq, s_p_ne, s_p_lt, s_p_ge, s_p_gt, s_p_le, nk_i, nk_z, nk_c, rf_s, ov_s, ov_n, fin0, fin1, fin2, fin3, cond_true, cond_false, List.set_cons_zero, List.set_cons_succ, List.length_cons, List.length_nil, true_and, and_true, true_or, or_true, implies_true, forall_const, not_true_eq_false, not_false_eq_true, false_implies, Nat.reduceAdd, Nat.reduceLT, Nat.reduceBEq, Nat.reduceEqDiff, Bool.or_false, Bool.false_or, Bool.or_true, Bool.true_or, beq_self_eq_true, Nat.reduceLeDiff, Nat.reduceMul, Nat.reduceSub, eq_self, Nat.reduceBneDiff, st0_s, st1_s, st2_s, st3_s, reduceCtorEq, cc_s, cc_0, tl_0, cl_0, il_0, tl_1, cl_1, il_1, tl_2, cl_2, il_2, tl_3, cl_3, il_3, tl_4, cl_4, il_4, tl_5, cl_5, il_5, tl_6, cl_6, il_6, tl_7, cl_7, il_7, tl_8, cl_8, il_8, tl_9, cl_9, il_9, tl_10, cl_10, il_10, tl_11, cl_11, il_11, tl_12, cl_12, il_12, tl_13, cl_13, il_13, tl_14, cl_14, il_14, tl_15, cl_15, il_15, tl_16, cl_16, il_16, tl_20, tl_21, tl_25, tl_32, tl_48, tl_50, tl_57, tl_58, tl_59, tl_60, tl_99, tl_100, tl_101, tl_108, tl_109, tl_116, tl_120, tl_126, tl_374, tl_1122, tl_50000, i10, i01, tl_m1, tl_m2, tl_m3, tl_m4, nr_X7_undo, tX7_undo_0, tX7_undo_1, tX7_undo_4, tX7_undo_7, tX7_undo_9, tX7_undo_10, tX7_undo_11, tX7_undo_12, tX7_undo_15, tX7_undo_16, tX7_undo_17, tX7_undo_20, tX7_undo_21, tX7_undo_22, tX7_undo_23, tX7_undo_26, tX7_undo_29, tX7_undo_30, tX7_undo_33, tX7_undo_34, tX7_undo_35, tX7_undo_38, tX7_undo_41, tX7_undo_42, tX7_undo_45, tX7_undo_46, tX7_undo_47, tX7_undo_48, tX7_undo_49, tX7_undo_50, tX7_undo_53, tX7_undo_56, tX7_undo_57, tX7_undo_60, pw_QK_s, h1, h2, h3, h4, h5]
          try simp (disch := omega) only [ix_l, ix_n, ix_0, ix_1, ix_2, ix_3, ix_4, ix_5, ix_6, ix_7, ix_8, ix_9, ix_10, ix_11, ix_12, ix_13, ix_14, ix_15, ix_20, ix_100, ix_374, jx_100, jx_11, jx_374, kx_374, cl_nI, in_nI, Nat.add_zero, true_and, up_set, set_s, set_set, set_n, cpy_s0, cpy_sd, cpy_ss, nI_add, upd_s]
          exact ⟨fun q => absurd q (nI_geL 374 (by omega) (by omega)), fun _ => ih (j + 1) (by omega)⟩
      have := loop _ 0 (Nat.zero_add _)
      rw [cpy_0] at this
      refine pw_go okX7_undo (cc []) ⟨Nat.le_refl _, Nat.le_refl _⟩ cc_n (st1 22) 60 ?_
      simp only [vc_s, vq_s, vk_s, e_iconst, e_bipush, e_sipush, e_ldc, e_ldc_w, e_iload_n, e_iload, e_aload_n, e_aload, e_istore_n, e_istore, e_astore_n, e_astore, e_iinc, e_iadd, e_isub, e_imul, e_iand, e_ior, e_ixor, e_idiv, e_irem, e_ishl, e_ishr, e_iushr, e_i2c, e_dup, e_dup2, e_pop, e_goto, e_ifCond, e_if_icmp, e_tableswitch, e_lookupswitch, e_getfield_i, e_getfield_r, e_putfield_i, e_putfield_z, e_iaload, e_caload, e_aaload, e_iastore, e_castore, e_arraylength, e_invokestatic, e_invokevirtual, e_ireturn, e_return_, s_i_c, s_r_c, s_v_i, s_v_r, s_l_0, s_l_1, s_l_2, s_l_3, s_l_4, s_l_5, s_l_6, s_a_0, s_a_1, s_a_2, s_a_3, s_m_0, s_m_i, s_m_r, s_m_i7, s_m_r7, s_m_i6, s_m_r6, s_m_i5, s_m_r5, s_m_i4, s_m_r4, s_w_n, s_w_c, s_p_eq, s_p_ne, s_p_lt, s_p_ge, s_p_gt, s_p_le, nk_i, nk_z, nk_c, rf_s, ov_s, ov_n, fin0, fin1, fin2, fin3, cond_true, cond_false, List.set_cons_zero, List.set_cons_succ, List.length_cons, List.length_nil, true_and, and_true, true_or, or_true, implies_true, forall_const, not_true_eq_false, not_false_eq_true, false_implies, Nat.reduceAdd, Nat.reduceLT, Nat.reduceBEq, Nat.reduceEqDiff, Bool.or_false, Bool.false_or, Bool.or_true, Bool.true_or, beq_self_eq_true, Nat.reduceLeDiff, Nat.reduceMul, Nat.reduceSub, eq_self, Nat.reduceBneDiff, st0_s, st1_s, st2_s, st3_s, reduceCtorEq, cc_s, cc_0, tl_0, cl_0, il_0, tl_1, cl_1, il_1, tl_2, cl_2, il_2, tl_3, cl_3, il_3, tl_4, cl_4, il_4, tl_5, cl_5, il_5, tl_6, cl_6, il_6, tl_7, cl_7, il_7, tl_8, cl_8, il_8, tl_9, cl_9, il_9, tl_10, cl_10, il_10, tl_11, cl_11, il_11, tl_12, cl_12, il_12, tl_13, cl_13, il_13, tl_14, cl_14, il_14, tl_15, cl_15, il_15, tl_16, cl_16, il_16, tl_20, tl_21, tl_25, tl_32, tl_48, tl_50, tl_57, tl_58, tl_59, tl_60, tl_99, tl_100, tl_101, tl_108, tl_109, tl_116, tl_120, tl_126, tl_374, tl_1122, tl_50000, i10, i01, tl_m1, tl_m2, tl_m3, tl_m4, nr_X7_undo, tX7_undo_0, tX7_undo_1, tX7_undo_4, tX7_undo_7, tX7_undo_9, tX7_undo_10, tX7_undo_11, tX7_undo_12, tX7_undo_15, tX7_undo_16, tX7_undo_17, tX7_undo_20, tX7_undo_21, tX7_undo_22, tX7_undo_23, tX7_undo_26, tX7_undo_29, tX7_undo_30, tX7_undo_33, tX7_undo_34, tX7_undo_35, tX7_undo_38, tX7_undo_41, tX7_undo_42, tX7_undo_45, tX7_undo_46, tX7_undo_47, tX7_undo_48, tX7_undo_49, tX7_undo_50, tX7_undo_53, tX7_undo_56, tX7_undo_57, tX7_undo_60, pw_QK_s, h1, h2, h3, h4, h5, hu1, nI_pred]
      refine ⟨fun _ => ?_, fun q => absurd q (nI_ne0 (by omega) (by omega))⟩
      rw [up_set]
      rw [set_idn (set_n (by omega))] at this
      exact this
  · exact h.elim
end MOD2
end
section
/-! the reference: the turns, and what events do -/
section MOD3
variable {n base m : Nat} {sh : pw_Sh} {P : pw_P} {Ag : List Value} {I : pw_I} {K : Option Value → pw_I → Prop}
def w_hang (m : Nat) : pw_Wp := fun Ag I K => match Ag with
  | [.ref o, .int y, .int x] => o = m ∧ (0 ≤ y.toInt ∧ y.toInt < 6) ∧ (I (m + 1) (16 + 25 * y.toNatClampNeg + 3) = nI (vN (I (m + 1)) (16 + 25 * y.toNatClampNeg + 3)) ∧ vN (I (m + 1)) (16 + 25 * y.toNatClampNeg + 3) ≤ 20) ∧ K none (pw_set I (m + 1) (hangS (I (m + 1)) y.toNatClampNeg x))
  | _ => False
set_option maxRecDepth 100000 in
set_option maxHeartbeats 4000000 in
theorem x_hang (hM : pw_mod sh P m) (h : w_hang m Ag I K) : pw_ok mX7_hang 1 base n sh P Ag I K := by
  unfold w_hang at h
  split at h
  · rename_i o y x
    obtain ⟨rfl, hy, h0, hA⟩ := h
    obtain ⟨j, rfl, hj⟩ := tn6 hy
    rw [cl_nI (by omega)] at h0 hA
    obtain ⟨h1, ⟨h2, h3⟩, -⟩ := id hM
    refine pw_bd [_, _, _] pl_X7 c_rii rfl rfl ?_
    refine pw_go okX7_hang (cc [(98, w_n)]) ⟨Nat.le_refl _, Nat.le_refl _⟩ (cc_c (fun Ag I K h => ⟨0, Nat.le_of_ble_eq_true rfl, x_n h⟩) cc_n) (st0) 60 ?_
    simp only [vc_s, vq_s, vk_s, e_iconst, e_bipush, e_sipush, e_ldc, e_ldc_w, e_iload_n, e_iload, e_aload_n, e_aload, e_istore_n, e_istore, e_astore_n, e_astore, e_iinc, e_iadd, e_isub, e_imul, e_iand, e_ior, e_ixor, e_idiv, e_irem, e_ishl, e_ishr, e_iushr, e_i2c, e_dup, e_dup2, e_pop, e_goto, e_ifCond, e_if_icmp, e_tableswitch, e_lookupswitch, e_getfield_i, e_getfield_r, e_putfield_i, e_putfield_z, e_iaload, e_caload, e_aaload, e_iastore, e_castore, e_arraylength, e_invokestatic, e_invokevirtual, e_ireturn, e_return_, s_i_c, s_r_c, s_v_i, s_v_r, s_l_0, s_l_1, s_l_2, s_l_3, s_l_4, s_l_5, s_l_6, s_a_0, s_a_1, s_a_2, s_a_3, s_m_0, s_m_i, s_m_r, s_m_i7, s_m_r7, s_m_i6, s_m_r6, s_m_i5, s_m_r5, s_m_i4, s_m_r4, s_w_n, s_w_c, s_p_eq, s_p_ne, s_p_lt, s_p_ge, s_p_gt, s_p_le, nk_i, nk_z, nk_c, rf_s, ov_s, ov_n, fin0, fin1, fin2, fin3, cond_true, cond_false, List.set_cons_zero, List.set_cons_succ, List.length_cons, List.length_nil, true_and, and_true, true_or, or_true, implies_true, forall_const, not_true_eq_false, not_false_eq_true, false_implies, Nat.reduceAdd, Nat.reduceLT, Nat.reduceBEq, Nat.reduceEqDiff, Bool.or_false, Bool.false_or, Bool.or_true, Bool.true_or, beq_self_eq_true, Nat.reduceLeDiff, Nat.reduceMul, Nat.reduceSub, eq_self, Nat.reduceBneDiff, st0_s, st1_s, st2_s, st3_s, reduceCtorEq, cc_s, cc_0, tl_0, cl_0, il_0, tl_1, cl_1, il_1, tl_2, cl_2, il_2, tl_3, cl_3, il_3, tl_4, cl_4, il_4, tl_5, cl_5, il_5, tl_6, cl_6, il_6, tl_7, cl_7, il_7, tl_8, cl_8, il_8, tl_9, cl_9, il_9, tl_10, cl_10, il_10, tl_11, cl_11, il_11, tl_12, cl_12, il_12, tl_13, cl_13, il_13, tl_14, cl_14, il_14, tl_15, cl_15, il_15, tl_16, cl_16, il_16, tl_20, tl_21, tl_25, tl_32, tl_48, tl_50, tl_57, tl_58, tl_59, tl_60, tl_99, tl_100, tl_101, tl_108, tl_109, tl_116, tl_120, tl_126, tl_374, tl_1122, tl_50000, i10, i01, tl_m1, tl_m2, tl_m3, tl_m4, nr_X7_hang, tX7_hang_0, tX7_hang_1, tX7_hang_4, tX7_hang_5, tX7_hang_8, tX7_hang_9, tX7_hang_10, tX7_hang_11, tX7_hang_14, tX7_hang_15, tX7_hang_18, tX7_hang_19, tX7_hang_20, tX7_hang_21, tX7_hang_22, tX7_hang_23, tX7_hang_24, tX7_hang_25, tX7_hang_28, tX7_hang_29, tX7_hang_32, tX7_hang_33, tX7_hang_34, tX7_hang_35, tX7_hang_36, tX7_hang_37, tX7_hang_38, tX7_hang_39, pw_QK_s, h1, h2, h3, w_n]
    simp (disch := omega) only [ix_l, ix_n, ix_0, ix_1, ix_2, ix_3, ix_4, ix_5, ix_6, ix_7, ix_8, ix_9, ix_10, ix_11, ix_12, ix_13, ix_14, ix_15, ix_20, ix_100, ix_374, jx_100, jx_11, jx_374, kx_374, cl_nI, in_nI, Nat.add_zero, true_and, up_set, set_s, set_set, set_n, cpy_s0, cpy_sd, cpy_ss, nI_add, h0.1]
    rw [upd_n (by omega), h0.1, ix_1]
    exact hA
  · exact h.elim
def w_turnBehind (m : Nat) : pw_Wp := fun Ag I K => match Ag with
  | [.ref o, .int y, .int x] => o = m ∧ (0 ≤ y.toInt ∧ y.toInt < 6) ∧ (I (m + 1) (16 + 25 * y.toNatClampNeg + 3) = nI (vN (I (m + 1)) (16 + 25 * y.toNatClampNeg + 3)) ∧ vN (I (m + 1)) (16 + 25 * y.toNatClampNeg + 3) ≤ 21) ∧
    posF (fun i => I (m + 1) (16 + 25 * y.toNatClampNeg + 4 + i)) x (vN (I (m + 1)) (16 + 25 * y.toNatClampNeg + 3)) < vN (I (m + 1)) (16 + 25 * y.toNatClampNeg + 3) ∧ K none (pw_set I (m + 1) (turnB (I (m + 1)) y.toNatClampNeg x))
  | _ => False
set_option maxRecDepth 100000 in
set_option maxHeartbeats 4000000 in
theorem x_turnBehind (hM : pw_mod sh P m) (h : w_turnBehind m Ag I K) : pw_ok mX7_turnBehind 1 base n sh P Ag I K := by
  unfold w_turnBehind at h
  split at h
  · rename_i o y x
    obtain ⟨rfl, hy, h0, hp, hA⟩ := h
    obtain ⟨j, rfl, hj⟩ := tn6 hy
    rw [cl_nI (by omega)] at h0 hA hp
    unfold turnB at hA
    have hno := posF_no (f := fun i => I (o + 1) (16 + 25 * j + 4 + i)) (x := x) (vN (I (o + 1)) (16 + 25 * j + 3))
    have hyes := posF_yes (f := fun i => I (o + 1) (16 + 25 * j + 4 + i)) (x := x) _ hp
    generalize posF (fun i => I (o + 1) (16 + 25 * j + 4 + i)) x (vN (I (o + 1)) (16 + 25 * j + 3)) = i at hA hp hno hyes
    obtain ⟨h1, ⟨h2, h3⟩, -⟩ := id hM
    refine pw_bd [_, _, _, _, _] pl_X7 c_rii rfl rfl ?_
    have loop2 : ∀ (f t p : Nat), p = 16 + 25 * j + 4 + i → p + t + f = 16 + 25 * j + 4 + vN (I (o + 1)) (16 + 25 * j + 3) - 1 → PW (mX7_turnBehind, 1, 0, 0, none, base) n sh P (pw_set I (o + 1) (va_cpy (I (o + 1)) (I (o + 1)) (p + 1) p t)) 0 0 40 [some (.ref o), some (.int (nI j)), some (.int x), some (.int (nI (p + t))), some (.int (nI (16 + 25 * j + 4 + vN (I (o + 1)) (16 + 25 * j + 3) - 1)))] [] (pw_QK n sh P K) := by
      intro f
      induction f with
      | zero =>
        intro t p hpe ht
        refine pw_go okX7_turnBehind (cc [(98, w_n)]) ⟨Nat.le_refl _, Nat.le_refl _⟩ (cc_c (fun Ag I K h => ⟨0, Nat.le_of_ble_eq_true rfl, x_n h⟩) cc_n) (st1 40) 60 ?_
        simp only [vc_s, vq_s, vk_s, e_iconst, e_bipush, e_sipush, e_ldc, e_ldc_w, e_iload_n, e_iload, e_aload_n, e_aload, e_istore_n, e_istore, e_astore_n, e_astore, e_iinc, e_iadd, e_isub, e_imul, e_iand, e_ior, e_ixor, e_idiv, e_irem, e_ishl, e_ishr, e_iushr, e_i2c, e_dup, e_dup2, e_pop, e_goto, e_ifCond, e_if_icmp, e_tableswitch, e_lookupswitch, e_getfield_i, e_getfield_r, e_putfield_i, e_putfield_z, e_iaload, e_caload, e_aaload, e_iastore, e_castore, e_arraylength, e_invokestatic, e_invokevirtual, e_ireturn, e_return_, s_i_c, s_r_c, s_v_i, s_v_r, s_l_0, s_l_1, s_l_2, s_l_3, s_l_4, s_l_5, s_l_6, s_a_0, s_a_1, s_a_2, s_a_3, s_m_0, s_m_i, s_m_r, s_m_i7, s_m_r7, s_m_i6, s_m_r6, s_m_i5, s_m_r5, s_m_i4, s_m_r4, s_w_n, s_w_c, s_p_eq, s_p_ne, s_p_lt, s_p_ge, s_p_gt, s_p_le, nk_i, nk_z, nk_c, rf_s, ov_s, ov_n, fin0, fin1, fin2, fin3, cond_true, cond_false, List.set_cons_zero, List.set_cons_succ, List.length_cons, List.length_nil, true_and, and_true, true_or, or_true, implies_true, forall_const, not_true_eq_false, not_false_eq_true, false_implies, Nat.reduceAdd, Nat.reduceLT, Nat.reduceBEq, Nat.reduceEqDiff, Bool.or_false, Bool.false_or, Bool.or_true, Bool.true_or, beq_self_eq_true, Nat.reduceLeDiff, Nat.reduceMul, Nat.reduceSub, eq_self, Nat.reduceBneDiff, st0_s, st1_s, st2_s, st3_s, reduceCtorEq, cc_s, cc_0, tl_0, cl_0, il_0, tl_1, cl_1, il_1, tl_2, cl_2, il_2, tl_3, cl_3, il_3, tl_4, cl_4, il_4, tl_5, cl_5, il_5, tl_6, cl_6, il_6, tl_7, cl_7, il_7, tl_8, cl_8, il_8, tl_9, cl_9, il_9, tl_10, cl_10, il_10, tl_11, cl_11, il_11, tl_12, cl_12, il_12, tl_13, cl_13, il_13, tl_14, cl_14, il_14, tl_15, cl_15, il_15, tl_16, cl_16, il_16, tl_20, tl_21, tl_25, tl_32, tl_48, tl_50, tl_57, tl_58, tl_59, tl_60, tl_99, tl_100, tl_101, tl_108, tl_109, tl_116, tl_120, tl_126, tl_374, tl_1122, tl_50000, i10, i01, tl_m1, tl_m2, tl_m3, tl_m4, nr_X7_turnBehind, tX7_turnBehind_0, tX7_turnBehind_1, tX7_turnBehind_4, tX7_turnBehind_5, tX7_turnBehind_6, tX7_turnBehind_7, tX7_turnBehind_8, tX7_turnBehind_9, tX7_turnBehind_12, tX7_turnBehind_13, tX7_turnBehind_16, tX7_turnBehind_17, tX7_turnBehind_18, tX7_turnBehind_19, tX7_turnBehind_20, tX7_turnBehind_21, tX7_turnBehind_22, tX7_turnBehind_24, tX7_turnBehind_25, tX7_turnBehind_28, tX7_turnBehind_29, tX7_turnBehind_30, tX7_turnBehind_31, tX7_turnBehind_34, tX7_turnBehind_37, tX7_turnBehind_40, tX7_turnBehind_41, tX7_turnBehind_43, tX7_turnBehind_46, tX7_turnBehind_47, tX7_turnBehind_50, tX7_turnBehind_51, tX7_turnBehind_52, tX7_turnBehind_55, tX7_turnBehind_56, tX7_turnBehind_57, tX7_turnBehind_58, tX7_turnBehind_59, tX7_turnBehind_60, tX7_turnBehind_63, tX7_turnBehind_66, tX7_turnBehind_67, tX7_turnBehind_70, tX7_turnBehind_72, tX7_turnBehind_73, tX7_turnBehind_74, pw_QK_s, h1, h2, h3, w_n]
        simp (disch := omega) only [ix_l, ix_n, ix_0, ix_1, ix_2, ix_3, ix_4, ix_5, ix_6, ix_7, ix_8, ix_9, ix_10, ix_11, ix_12, ix_13, ix_14, ix_15, ix_20, ix_100, ix_374, jx_100, jx_11, jx_374, kx_374, cl_nI, in_nI, Nat.add_zero, true_and, up_set, set_s, set_set, set_n, cpy_s0, cpy_sd, cpy_ss, nI_add, h0.1]
        refine ⟨fun _ => ?_, fun q => absurd (nI_le (by omega) (by omega)) q⟩
        unfold rotS at hA
        rw [← hyes]
        rw [show t = vN (I (o + 1)) (16 + 25 * j + 3) - 1 - i by omega, hpe]
        exact hA
      | succ f ih =>
        intro t p hpe ht
        refine pw_go okX7_turnBehind (cc [(98, w_n)]) ⟨Nat.le_refl _, Nat.le_refl _⟩ (cc_c (fun Ag I K h => ⟨0, Nat.le_of_ble_eq_true rfl, x_n h⟩) cc_n) (st1 40) 60 ?_
        simp only [vc_s, vq_s, vk_s, e_iconst, e_bipush, e_sipush, e_ldc, e_ldc_w, e_iload_n, e_iload, e_aload_n, e_aload, e_istore_n, e_istore, e_astore_n, e_astore, e_iinc, e_iadd, e_isub, e_imul, e_iand, e_ior, e_ixor, e_idiv, e_irem, e_ishl, e_ishr, e_iushr, e_i2c, e_dup, e_dup2, e_pop, e_goto, e_ifCond, e_if_icmp, e_tableswitch, e_lookupswitch, e_getfield_i, e_getfield_r, e_putfield_i, e_putfield_z, e_iaload, e_caload, e_aaload, e_iastore, e_castore, e_arraylength, e_invokestatic, e_invokevirtual, e_ireturn, e_return_, s_i_c, s_r_c, s_v_i, s_v_r, s_l_0, s_l_1, s_l_2, s_l_3, s_l_4, s_l_5, s_l_6, s_a_0, s_a_1, s_a_2, s_a_3, s_m_0, s_m_i, s_m_r, s_m_i7, s_m_r7, s_m_i6, s_m_r6, s_m_i5, s_m_r5, s_m_i4, s_m_r4, s_w_n, s_w_c, s_p_eq, s_p_ne, s_p_lt, s_p_ge, s_p_gt, s_p_le, nk_i, nk_z, nk_c, rf_s, ov_s, ov_n, fin0, fin1, fin2, fin3, cond_true, cond_false, List.set_cons_zero, List.set_cons_succ, List.length_cons, List.length_nil, true_and, and_true, true_or, or_true, implies_true, forall_const, not_true_eq_false, not_false_eq_true, false_implies, Nat.reduceAdd, Nat.reduceLT, Nat.reduceBEq, Nat.reduceEqDiff, Bool.or_false, Bool.false_or, Bool.or_true, Bool.true_or, beq_self_eq_true, Nat.reduceLeDiff, Nat.reduceMul, Nat.reduceSub, eq_self, Nat.reduceBneDiff, st0_s, st1_s, st2_s, st3_s, reduceCtorEq, cc_s, cc_0, tl_0, cl_0, il_0, tl_1, cl_1, il_1, tl_2, cl_2, il_2, tl_3, cl_3, il_3, tl_4, cl_4, il_4, tl_5, cl_5, il_5, tl_6, cl_6, il_6, tl_7, cl_7, il_7, tl_8, cl_8, il_8, tl_9, cl_9, il_9, tl_10, cl_10, il_10, tl_11, cl_11, il_11, tl_12, cl_12, il_12, tl_13, cl_13, il_13, tl_14, cl_14, il_14, tl_15, cl_15, il_15, tl_16, cl_16, il_16, tl_20, tl_21, tl_25, tl_32, tl_48, tl_50, tl_57, tl_58, tl_59, tl_60, tl_99, tl_100, tl_101, tl_108, tl_109, tl_116, tl_120, tl_126, tl_374, tl_1122, tl_50000, i10, i01, tl_m1, tl_m2, tl_m3, tl_m4, nr_X7_turnBehind, tX7_turnBehind_0, tX7_turnBehind_1, tX7_turnBehind_4, tX7_turnBehind_5, tX7_turnBehind_6, tX7_turnBehind_7, tX7_turnBehind_8, tX7_turnBehind_9, tX7_turnBehind_12, tX7_turnBehind_13, tX7_turnBehind_16, tX7_turnBehind_17, tX7_turnBehind_18, tX7_turnBehind_19, tX7_turnBehind_20, tX7_turnBehind_21, tX7_turnBehind_22, tX7_turnBehind_24, tX7_turnBehind_25, tX7_turnBehind_28, tX7_turnBehind_29, tX7_turnBehind_30, tX7_turnBehind_31, tX7_turnBehind_34, tX7_turnBehind_37, tX7_turnBehind_40, tX7_turnBehind_41, tX7_turnBehind_43, tX7_turnBehind_46, tX7_turnBehind_47, tX7_turnBehind_50, tX7_turnBehind_51, tX7_turnBehind_52, tX7_turnBehind_55, tX7_turnBehind_56, tX7_turnBehind_57, tX7_turnBehind_58, tX7_turnBehind_59, tX7_turnBehind_60, tX7_turnBehind_63, tX7_turnBehind_66, tX7_turnBehind_67, tX7_turnBehind_70, tX7_turnBehind_72, tX7_turnBehind_73, tX7_turnBehind_74, pw_QK_s, h1, h2, h3, w_n]
        simp (disch := omega) only [ix_l, ix_n, ix_0, ix_1, ix_2, ix_3, ix_4, ix_5, ix_6, ix_7, ix_8, ix_9, ix_10, ix_11, ix_12, ix_13, ix_14, ix_15, ix_20, ix_100, ix_374, jx_100, jx_11, jx_374, kx_374, cl_nI, in_nI, Nat.add_zero, true_and, up_set, set_s, set_set, set_n, cpy_s0, cpy_sd, cpy_ss, nI_add, h0.1, cpy_hi]
        refine ⟨fun q => absurd q (nI_ge (by omega) (by omega)), fun _ => ?_⟩
        have := ih (t + 1) p hpe (by omega)
        rw [← cpy_s, show p + 1 + t = p + t + 1 by omega, show p + (t + 1) = p + t + 1 by omega] at this
        exact this
    have loop1 : ∀ (f t : Nat), t + f = i → PW (mX7_turnBehind, 1, 0, 0, none, base) n sh P I 0 0 24 [some (.ref o), some (.int (nI j)), some (.int x), some (.int (nI (16 + 25 * j + 4 + t))), some (.int (nI (16 + 25 * j + 4 + vN (I (o + 1)) (16 + 25 * j + 3) - 1)))] [] (pw_QK n sh P K) := by
      intro f
      induction f with
      | zero =>
        intro t ht
        obtain rfl : t = i := by omega
        refine pw_go okX7_turnBehind (cc [(98, w_n)]) ⟨Nat.le_refl _, Nat.le_refl _⟩ (cc_c (fun Ag I K h => ⟨0, Nat.le_of_ble_eq_true rfl, x_n h⟩) cc_n) (st2 24 40) 60 ?_
        simp only [vc_s, vq_s, vk_s, e_iconst, e_bipush, e_sipush, e_ldc, e_ldc_w, e_iload_n, e_iload, e_aload_n, e_aload, e_istore_n, e_istore, e_astore_n, e_astore, e_iinc, e_iadd, e_isub, e_imul, e_iand, e_ior, e_ixor, e_idiv, e_irem, e_ishl, e_ishr, e_iushr, e_i2c, e_dup, e_dup2, e_pop, e_goto, e_ifCond, e_if_icmp, e_tableswitch, e_lookupswitch, e_getfield_i, e_getfield_r, e_putfield_i, e_putfield_z, e_iaload, e_caload, e_aaload, e_iastore, e_castore, e_arraylength, e_invokestatic, e_invokevirtual, e_ireturn, e_return_, s_i_c, s_r_c, s_v_i, s_v_r, s_l_0, s_l_1, s_l_2, s_l_3, s_l_4, s_l_5, s_l_6, s_a_0, s_a_1, s_a_2, s_a_3, s_m_0, s_m_i, s_m_r, s_m_i7, s_m_r7, s_m_i6, s_m_r6, s_m_i5, s_m_r5, s_m_i4, s_m_r4, s_w_n, s_w_c, s_p_eq, s_p_ne, s_p_lt, s_p_ge, s_p_gt, s_p_le, nk_i, nk_z, nk_c, rf_s, ov_s, ov_n, fin0, fin1, fin2, fin3, cond_true, cond_false, List.set_cons_zero, List.set_cons_succ, List.length_cons, List.length_nil, true_and, and_true, true_or, or_true, implies_true, forall_const, not_true_eq_false, not_false_eq_true, false_implies, Nat.reduceAdd, Nat.reduceLT, Nat.reduceBEq, Nat.reduceEqDiff, Bool.or_false, Bool.false_or, Bool.or_true, Bool.true_or, beq_self_eq_true, Nat.reduceLeDiff, Nat.reduceMul, Nat.reduceSub, eq_self, Nat.reduceBneDiff, st0_s, st1_s, st2_s, st3_s, reduceCtorEq, cc_s, cc_0, tl_0, cl_0, il_0, tl_1, cl_1, il_1, tl_2, cl_2, il_2, tl_3, cl_3, il_3, tl_4, cl_4, il_4, tl_5, cl_5, il_5, tl_6, cl_6, il_6, tl_7, cl_7, il_7, tl_8, cl_8, il_8, tl_9, cl_9, il_9, tl_10, cl_10, il_10, tl_11, cl_11, il_11, tl_12, cl_12, il_12, tl_13, cl_13, il_13, tl_14, cl_14, il_14, tl_15, cl_15, il_15, tl_16, cl_16, il_16, tl_20, tl_21, tl_25, tl_32, tl_48, tl_50, tl_57, tl_58, tl_59, tl_60, tl_99, tl_100, tl_101, tl_108, tl_109, tl_116, tl_120, tl_126, tl_374, tl_1122, tl_50000, i10, i01, tl_m1, tl_m2, tl_m3, tl_m4, nr_X7_turnBehind, tX7_turnBehind_0, tX7_turnBehind_1, tX7_turnBehind_4, tX7_turnBehind_5, tX7_turnBehind_6, tX7_turnBehind_7, tX7_turnBehind_8, tX7_turnBehind_9, tX7_turnBehind_12, tX7_turnBehind_13, tX7_turnBehind_16, tX7_turnBehind_17, tX7_turnBehind_18, tX7_turnBehind_19, tX7_turnBehind_20, tX7_turnBehind_21, tX7_turnBehind_22, tX7_turnBehind_24, tX7_turnBehind_25, tX7_turnBehind_28, tX7_turnBehind_29, tX7_turnBehind_30, tX7_turnBehind_31, tX7_turnBehind_34, tX7_turnBehind_37, tX7_turnBehind_40, tX7_turnBehind_41, tX7_turnBehind_43, tX7_turnBehind_46, tX7_turnBehind_47, tX7_turnBehind_50, tX7_turnBehind_51, tX7_turnBehind_52, tX7_turnBehind_55, tX7_turnBehind_56, tX7_turnBehind_57, tX7_turnBehind_58, tX7_turnBehind_59, tX7_turnBehind_60, tX7_turnBehind_63, tX7_turnBehind_66, tX7_turnBehind_67, tX7_turnBehind_70, tX7_turnBehind_72, tX7_turnBehind_73, tX7_turnBehind_74, pw_QK_s, h1, h2, h3, w_n]
        simp (disch := omega) only [ix_l, ix_n, ix_0, ix_1, ix_2, ix_3, ix_4, ix_5, ix_6, ix_7, ix_8, ix_9, ix_10, ix_11, ix_12, ix_13, ix_14, ix_15, ix_20, ix_100, ix_374, jx_100, jx_11, jx_374, kx_374, cl_nI, in_nI, Nat.add_zero, true_and, up_set, set_s, set_set, set_n, cpy_s0, cpy_sd, cpy_ss, nI_add, h0.1]
        refine ⟨fun _ => ?_, fun q => absurd hyes q⟩
        have := loop2 _ 0 (16 + 25 * j + 4 + t) rfl (Nat.add_sub_cancel' (by omega))
        rw [cpy_0, set_id] at this
        exact this
      | succ f ih =>
        intro t ht
        refine pw_go okX7_turnBehind (cc [(98, w_n)]) ⟨Nat.le_refl _, Nat.le_refl _⟩ (cc_c (fun Ag I K h => ⟨0, Nat.le_of_ble_eq_true rfl, x_n h⟩) cc_n) (st2 24 40) 60 ?_
        simp only [vc_s, vq_s, vk_s, e_iconst, e_bipush, e_sipush, e_ldc, e_ldc_w, e_iload_n, e_iload, e_aload_n, e_aload, e_istore_n, e_istore, e_astore_n, e_astore, e_iinc, e_iadd, e_isub, e_imul, e_iand, e_ior, e_ixor, e_idiv, e_irem, e_ishl, e_ishr, e_iushr, e_i2c, e_dup, e_dup2, e_pop, e_goto, e_ifCond, e_if_icmp, e_tableswitch, e_lookupswitch, e_getfield_i, e_getfield_r, e_putfield_i, e_putfield_z, e_iaload, e_caload, e_aaload, e_iastore, e_castore, e_arraylength, e_invokestatic, e_invokevirtual, e_ireturn, e_return_, s_i_c, s_r_c, s_v_i, s_v_r, s_l_0, s_l_1, s_l_2, s_l_3, s_l_4, s_l_5, s_l_6, s_a_0, s_a_1, s_a_2, s_a_3, s_m_0, s_m_i, s_m_r, s_m_i7, s_m_r7, s_m_i6, s_m_r6, s_m_i5, s_m_r5, s_m_i4, s_m_r4, s_w_n, s_w_c, s_p_eq, s_p_ne, s_p_lt, s_p_ge, s_p_gt, s_p_le, nk_i, nk_z, nk_c, rf_s, ov_s, ov_n, fin0, fin1, fin2, fin3, cond_true, cond_false, List.set_cons_zero, List.set_cons_succ, List.length_cons, List.length_nil, true_and, and_true, true_or, or_true, implies_true, forall_const, not_true_eq_false, not_false_eq_true, false_implies, Nat.reduceAdd, Nat.reduceLT, Nat.reduceBEq, Nat.reduceEqDiff, Bool.or_false, Bool.false_or, Bool.or_true, Bool.true_or, beq_self_eq_true, Nat.reduceLeDiff, Nat.reduceMul, Nat.reduceSub, eq_self, Nat.reduceBneDiff, st0_s, st1_s, st2_s, st3_s, reduceCtorEq, cc_s, cc_0, tl_0, cl_0, il_0, tl_1, cl_1, il_1, tl_2, cl_2, il_2, tl_3, cl_3, il_3, tl_4, cl_4, il_4, tl_5, cl_5, il_5, tl_6, cl_6, il_6, tl_7, cl_7, il_7, tl_8, cl_8, il_8, tl_9, cl_9, il_9, tl_10, cl_10, il_10, tl_11, cl_11, il_11, tl_12, cl_12, il_12, tl_13, cl_13, il_13, tl_14, cl_14, il_14, tl_15, cl_15, il_15, tl_16, cl_16, il_16, tl_20, tl_21, tl_25, tl_32, tl_48, tl_50, tl_57, tl_58, tl_59, tl_60, tl_99, tl_100, tl_101, tl_108, tl_109, tl_116, tl_120, tl_126, tl_374, tl_1122, tl_50000, i10, i01, tl_m1, tl_m2, tl_m3, tl_m4, nr_X7_turnBehind, tX7_turnBehind_0, tX7_turnBehind_1, tX7_turnBehind_4, tX7_turnBehind_5, tX7_turnBehind_6, tX7_turnBehind_7, tX7_turnBehind_8, tX7_turnBehind_9, tX7_turnBehind_12, tX7_turnBehind_13, tX7_turnBehind_16, tX7_turnBehind_17, tX7_turnBehind_18, tX7_turnBehind_19, tX7_turnBehind_20, tX7_turnBehind_21, tX7_turnBehind_22, tX7_turnBehind_24, tX7_turnBehind_25, tX7_turnBehind_28, tX7_turnBehind_29, tX7_turnBehind_30, tX7_turnBehind_31, tX7_turnBehind_34, tX7_turnBehind_37, tX7_turnBehind_40, tX7_turnBehind_41, tX7_turnBehind_43, tX7_turnBehind_46, tX7_turnBehind_47, tX7_turnBehind_50, tX7_turnBehind_51, tX7_turnBehind_52, tX7_turnBehind_55, tX7_turnBehind_56, tX7_turnBehind_57, tX7_turnBehind_58, tX7_turnBehind_59, tX7_turnBehind_60, tX7_turnBehind_63, tX7_turnBehind_66, tX7_turnBehind_67, tX7_turnBehind_70, tX7_turnBehind_72, tX7_turnBehind_73, tX7_turnBehind_74, pw_QK_s, h1, h2, h3, w_n]
        simp (disch := omega) only [ix_l, ix_n, ix_0, ix_1, ix_2, ix_3, ix_4, ix_5, ix_6, ix_7, ix_8, ix_9, ix_10, ix_11, ix_12, ix_13, ix_14, ix_15, ix_20, ix_100, ix_374, jx_100, jx_11, jx_374, kx_374, cl_nI, in_nI, Nat.add_zero, true_and, up_set, set_s, set_set, set_n, cpy_s0, cpy_sd, cpy_ss, nI_add, h0.1]
        exact ⟨fun q => absurd q (hno t (by omega)), fun _ => ih (t + 1) (by omega)⟩
    have := loop1 _ 0 (Nat.zero_add _)
    refine pw_go okX7_turnBehind (cc [(98, w_n)]) ⟨Nat.le_refl _, Nat.le_refl _⟩ (cc_c (fun Ag I K h => ⟨0, Nat.le_of_ble_eq_true rfl, x_n h⟩) cc_n) (st1 24) 60 ?_
    simp only [vc_s, vq_s, vk_s, e_iconst, e_bipush, e_sipush, e_ldc, e_ldc_w, e_iload_n, e_iload, e_aload_n, e_aload, e_istore_n, e_istore, e_astore_n, e_astore, e_iinc, e_iadd, e_isub, e_imul, e_iand, e_ior, e_ixor, e_idiv, e_irem, e_ishl, e_ishr, e_iushr, e_i2c, e_dup, e_dup2, e_pop, e_goto, e_ifCond, e_if_icmp, e_tableswitch, e_lookupswitch, e_getfield_i, e_getfield_r, e_putfield_i, e_putfield_z, e_iaload, e_caload, e_aaload, e_iastore, e_castore, e_arraylength, e_invokestatic, e_invokevirtual, e_ireturn, e_return_, s_i_c, s_r_c, s_v_i, s_v_r, s_l_0, s_l_1, s_l_2, s_l_3, s_l_4, s_l_5, s_l_6, s_a_0, s_a_1, s_a_2, s_a_3, s_m_0, s_m_i, s_m_r, s_m_i7, s_m_r7, s_m_i6, s_m_r6, s_m_i5, s_m_r5, s_m_i4, s_m_r4, s_w_n, s_w_c, s_p_eq, s_p_ne, s_p_lt, s_p_ge, s_p_gt, s_p_le, nk_i, nk_z, nk_c, rf_s, ov_s, ov_n, fin0, fin1, fin2, fin3, cond_true, cond_false, List.set_cons_zero, List.set_cons_succ, List.length_cons, List.length_nil, true_and, and_true, true_or, or_true, implies_true, forall_const, not_true_eq_false, not_false_eq_true, false_implies, Nat.reduceAdd, Nat.reduceLT, Nat.reduceBEq, Nat.reduceEqDiff, Bool.or_false, Bool.false_or, Bool.or_true, Bool.true_or, beq_self_eq_true, Nat.reduceLeDiff, Nat.reduceMul, Nat.reduceSub, eq_self, Nat.reduceBneDiff, st0_s, st1_s, st2_s, st3_s, reduceCtorEq, cc_s, cc_0, tl_0, cl_0, il_0, tl_1, cl_1, il_1, tl_2, cl_2, il_2, tl_3, cl_3, il_3, tl_4, cl_4, il_4, tl_5, cl_5, il_5, tl_6, cl_6, il_6, tl_7, cl_7, il_7, tl_8, cl_8, il_8, tl_9, cl_9, il_9, tl_10, cl_10, il_10, tl_11, cl_11, il_11, tl_12, cl_12, il_12, tl_13, cl_13, il_13, tl_14, cl_14, il_14, tl_15, cl_15, il_15, tl_16, cl_16, il_16, tl_20, tl_21, tl_25, tl_32, tl_48, tl_50, tl_57, tl_58, tl_59, tl_60, tl_99, tl_100, tl_101, tl_108, tl_109, tl_116, tl_120, tl_126, tl_374, tl_1122, tl_50000, i10, i01, tl_m1, tl_m2, tl_m3, tl_m4, nr_X7_turnBehind, tX7_turnBehind_0, tX7_turnBehind_1, tX7_turnBehind_4, tX7_turnBehind_5, tX7_turnBehind_6, tX7_turnBehind_7, tX7_turnBehind_8, tX7_turnBehind_9, tX7_turnBehind_12, tX7_turnBehind_13, tX7_turnBehind_16, tX7_turnBehind_17, tX7_turnBehind_18, tX7_turnBehind_19, tX7_turnBehind_20, tX7_turnBehind_21, tX7_turnBehind_22, tX7_turnBehind_24, tX7_turnBehind_25, tX7_turnBehind_28, tX7_turnBehind_29, tX7_turnBehind_30, tX7_turnBehind_31, tX7_turnBehind_34, tX7_turnBehind_37, tX7_turnBehind_40, tX7_turnBehind_41, tX7_turnBehind_43, tX7_turnBehind_46, tX7_turnBehind_47, tX7_turnBehind_50, tX7_turnBehind_51, tX7_turnBehind_52, tX7_turnBehind_55, tX7_turnBehind_56, tX7_turnBehind_57, tX7_turnBehind_58, tX7_turnBehind_59, tX7_turnBehind_60, tX7_turnBehind_63, tX7_turnBehind_66, tX7_turnBehind_67, tX7_turnBehind_70, tX7_turnBehind_72, tX7_turnBehind_73, tX7_turnBehind_74, pw_QK_s, h1, h2, h3, w_n]
    simp (disch := omega) only [ix_l, ix_n, ix_0, ix_1, ix_2, ix_3, ix_4, ix_5, ix_6, ix_7, ix_8, ix_9, ix_10, ix_11, ix_12, ix_13, ix_14, ix_15, ix_20, ix_100, ix_374, jx_100, jx_11, jx_374, kx_374, cl_nI, in_nI, Nat.add_zero, true_and, up_set, set_s, set_set, set_n, cpy_s0, cpy_sd, cpy_ss, nI_add, h0.1]
    rw [show nI (16 + 25 * j + 4 + vN (I (o + 1)) (16 + 25 * j + 3)) - 1 = nI (16 + 25 * j + 4 + vN (I (o + 1)) (16 + 25 * j + 3) - 1) from pk_sub (b := 1) (by omega)]
    exact this
  · exact h.elim
def w_turnWay (m : Nat) : pw_Wp := fun Ag I K => match Ag with
  | [.ref o, .int x] => o = m ∧ InvB (I (m + 1)) ∧ (0 ≤ x.toInt ∧ x.toInt < 16) ∧ turnOK (wayS (I (m + 1)) (vN (I (m + 1)) (166 + 13 * x.toNatClampNeg))) (I (m + 1)) (nI x.toNatClampNeg) ∧ K none (pw_set I (m + 1) (turnWS (I (m + 1)) x.toNatClampNeg))
  | _ => False
set_option maxRecDepth 100000 in
set_option maxHeartbeats 4000000 in
theorem x_turnWay (hM : pw_mod sh P m) (h : w_turnWay m Ag I K) : pw_ok mX7_turnWay 2 base n sh P Ag I K := by
  unfold w_turnWay at h
  split at h
  · rename_i o x
    obtain ⟨rfl, hI, hx, hT, hA⟩ := h
    obtain ⟨h1, ⟨h2, h3⟩, -⟩ := id hM
    obtain ⟨k, rfl, hk⟩ := tn16 hx
    rw [cl_nI (by omega)] at hT hA
    unfold turnWS at hA
    refine pw_bd [_, _, _, _] pl_X7 c_ri rfl rfl ?_
    have ex : ∀ (J : pw_I) (x y : Int32), K none J → PW (mX7_turnWay, 2, 0, 0, none, base) n sh P J 0 0 14 [some (.ref o), some (.int x), some (.int y), some (.int (-1))] [] (pw_QK n sh P K) := by
      intro J x y hK
      refine pw_go okX7_turnWay (cc [(98, w_n), (117, (w_turnBehind o))]) ⟨Nat.le_refl _, Nat.le_refl _⟩ (cc_c (fun Ag I K h => ⟨0, Nat.le_of_ble_eq_true rfl, x_n h⟩) (cc_c (fun Ag I K h => ⟨1, Nat.le_of_ble_eq_true rfl, x_turnBehind hM h⟩) cc_n)) (st1 14) 60 ?_
      simp only [vc_s, vq_s, vk_s, e_iconst, e_bipush, e_sipush, e_ldc, e_ldc_w, e_iload_n, e_iload, e_aload_n, e_aload, e_istore_n, e_istore, e_astore_n, e_astore, e_iinc, e_iadd, e_isub, e_imul, e_iand, e_ior, e_ixor, e_idiv, e_irem, e_ishl, e_ishr, e_iushr, e_i2c, e_dup, e_dup2, e_pop, e_goto, e_ifCond, e_if_icmp, e_tableswitch, e_lookupswitch, e_getfield_i, e_getfield_r, e_putfield_i, e_putfield_z, e_iaload, e_caload, e_aaload, e_iastore, e_castore, e_arraylength, e_invokestatic, e_invokevirtual, e_ireturn, e_return_, s_i_c, s_r_c, s_v_i, s_v_r, s_l_0, s_l_1, s_l_2, s_l_3, s_l_4, s_l_5, s_l_6, s_a_0, s_a_1, s_a_2, s_a_3, s_m_0, s_m_i, s_m_r, s_m_i7, s_m_r7, s_m_i6, s_m_r6, s_m_i5, s_m_r5, s_m_i4, s_m_r4, s_w_n, s_w_c, s_p_eq, s_p_ne, s_p_lt, s_p_ge, s_p_gt, s_p_le, nk_i, nk_z, nk_c, rf_s, ov_s, ov_n, fin0, fin1, fin2, fin3, cond_true, cond_false, List.set_cons_zero, List.set_cons_succ, List.length_cons, List.length_nil, true_and, and_true, true_or, or_true, implies_true, forall_const, not_true_eq_false, not_false_eq_true, false_implies, Nat.reduceAdd, Nat.reduceLT, Nat.reduceBEq, Nat.reduceEqDiff, Bool.or_false, Bool.false_or, Bool.or_true, Bool.true_or, beq_self_eq_true, Nat.reduceLeDiff, Nat.reduceMul, Nat.reduceSub, eq_self, Nat.reduceBneDiff, st0_s, st1_s, st2_s, st3_s, reduceCtorEq, cc_s, cc_0, tl_0, cl_0, il_0, tl_1, cl_1, il_1, tl_2, cl_2, il_2, tl_3, cl_3, il_3, tl_4, cl_4, il_4, tl_5, cl_5, il_5, tl_6, cl_6, il_6, tl_7, cl_7, il_7, tl_8, cl_8, il_8, tl_9, cl_9, il_9, tl_10, cl_10, il_10, tl_11, cl_11, il_11, tl_12, cl_12, il_12, tl_13, cl_13, il_13, tl_14, cl_14, il_14, tl_15, cl_15, il_15, tl_16, cl_16, il_16, tl_20, tl_21, tl_25, tl_32, tl_48, tl_50, tl_57, tl_58, tl_59, tl_60, tl_99, tl_100, tl_101, tl_108, tl_109, tl_116, tl_120, tl_126, tl_374, tl_1122, tl_50000, i10, i01, tl_m1, tl_m2, tl_m3, tl_m4, nr_X7_turnWay, tX7_turnWay_0, tX7_turnWay_1, tX7_turnWay_2, tX7_turnWay_3, tX7_turnWay_6, tX7_turnWay_7, tX7_turnWay_10, tX7_turnWay_11, tX7_turnWay_12, tX7_turnWay_13, tX7_turnWay_14, tX7_turnWay_15, tX7_turnWay_18, tX7_turnWay_19, tX7_turnWay_22, tX7_turnWay_23, tX7_turnWay_26, tX7_turnWay_27, tX7_turnWay_28, tX7_turnWay_29, tX7_turnWay_30, tX7_turnWay_33, tX7_turnWay_34, tX7_turnWay_35, tX7_turnWay_36, tX7_turnWay_39, tX7_turnWay_41, tX7_turnWay_42, tX7_turnWay_43, tX7_turnWay_44, tX7_turnWay_45, tX7_turnWay_48, tX7_turnWay_49, tX7_turnWay_52, tX7_turnWay_53, tX7_turnWay_54, tX7_turnWay_55, tX7_turnWay_56, tX7_turnWay_59, pw_QK_s, h1, h2, h3, w_n, w_turnBehind]
      exact ⟨fun _ => hK, fun q => absurd (by decide) q⟩
    have loop : ∀ (f j : Nat) (L0 x : Int32) (S : Nat → Int32), j < 6 → j < f → InvB S → turnOK (wayS S j) S x → K none (pw_set I (o + 1) (turnW (wayS S j) S x)) →
        PW (mX7_turnWay, 2, 0, 0, none, base) n sh P (pw_set I (o + 1) S) 0 0 14 [some (.ref o), some (.int L0), some (.int x), some (.int (nI j))] [] (pw_QK n sh P K) := by
      intro f
      induction f with
      | zero => intro j L0 x S h1 h2; omega
      | succ f ih =>
        intro j L0 x S hj hf hI hT hK
        have hb := hI.2.2.2.1 j hj
        have next : ∀ S', Agr S S' → (S' = if S (16 + 25 * j + 1) = 1 then turnB S j x else S) → PW (mX7_turnWay, 2, 0, 0, none, base) n sh P (pw_set I (o + 1) S') 0 0 14 [some (.ref o), some (.int L0), some (.int (nI (100 + j))), some (.int (S' (16 + 25 * j)))] [] (pw_QK n sh P K) := by
          intro S' hAg hS'
          rw [show S' (16 + 25 * j) = S (16 + 25 * j) from hAg.nd (c := 0) (by omega)]
          by_cases hj0 : j = 0
          · subst hj0
            rw [show S (16 + 25 * 0) = -1 from hI.2.2.2.2.1.1]
            refine ex _ _ _ ?_
            rw [wayS_0] at hK
            simp only [turnW] at hK
            rw [hS']
            exact hK
          · have hon := hI.2.2.2.2.1.2 j (by omega) hj
            rw [wayS_s hI (by omega) hj] at hT hK
            rw [hon.1]
            refine ih _ L0 _ S' (by omega) (by omega) (hAg.InvB hI) ?_ ?_
            · rw [hAg.way, hS']; exact hT.2
            · rw [hAg.way]
              rw [turnW, ← hS'] at hK
              exact hK
        refine pw_go okX7_turnWay (cc [(98, w_n), (117, (w_turnBehind o))]) ⟨Nat.le_refl _, Nat.le_refl _⟩ (cc_c (fun Ag I K h => ⟨0, Nat.le_of_ble_eq_true rfl, x_n h⟩) (cc_c (fun Ag I K h => ⟨1, Nat.le_of_ble_eq_true rfl, x_turnBehind hM h⟩) cc_n)) (st1 14) 60 ?_
        simp only [vc_s, vq_s, vk_s, e_iconst, e_bipush, e_sipush, e_ldc, e_ldc_w, e_iload_n, e_iload, e_aload_n, e_aload, e_istore_n, e_istore, e_astore_n, e_astore, e_iinc, e_iadd, e_isub, e_imul, e_iand, e_ior, e_ixor, e_idiv, e_irem, e_ishl, e_ishr, e_iushr, e_i2c, e_dup, e_dup2, e_pop, e_goto, e_ifCond, e_if_icmp, e_tableswitch, e_lookupswitch, e_getfield_i, e_getfield_r, e_putfield_i, e_putfield_z, e_iaload, e_caload, e_aaload, e_iastore, e_castore, e_arraylength, e_invokestatic, e_invokevirtual, e_ireturn, e_return_, s_i_c, s_r_c, s_v_i, s_v_r, s_l_0, s_l_1, s_l_2, s_l_3, s_l_4, s_l_5, s_l_6, s_a_0, s_a_1, s_a_2, s_a_3, s_m_0, s_m_i, s_m_r, s_m_i7, s_m_r7, s_m_i6, s_m_r6, s_m_i5, s_m_r5, s_m_i4, s_m_r4, s_w_n, s_w_c, s_p_eq, s_p_ne, s_p_lt, s_p_ge, s_p_gt, s_p_le, nk_i, nk_z, nk_c, rf_s, ov_s, ov_n, fin0, fin1, fin2, fin3, cond_true, cond_false, List.set_cons_zero, List.set_cons_succ, List.length_cons, List.length_nil, true_and, and_true, true_or, or_true, implies_true, forall_const, not_true_eq_false, not_false_eq_true, false_implies, Nat.reduceAdd, Nat.reduceLT, Nat.reduceBEq, Nat.reduceEqDiff, Bool.or_false, Bool.false_or, Bool.or_true, Bool.true_or, beq_self_eq_true, Nat.reduceLeDiff, Nat.reduceMul, Nat.reduceSub, eq_self, Nat.reduceBneDiff, st0_s, st1_s, st2_s, st3_s, reduceCtorEq, cc_s, cc_0, tl_0, cl_0, il_0, tl_1, cl_1, il_1, tl_2, cl_2, il_2, tl_3, cl_3, il_3, tl_4, cl_4, il_4, tl_5, cl_5, il_5, tl_6, cl_6, il_6, tl_7, cl_7, il_7, tl_8, cl_8, il_8, tl_9, cl_9, il_9, tl_10, cl_10, il_10, tl_11, cl_11, il_11, tl_12, cl_12, il_12, tl_13, cl_13, il_13, tl_14, cl_14, il_14, tl_15, cl_15, il_15, tl_16, cl_16, il_16, tl_20, tl_21, tl_25, tl_32, tl_48, tl_50, tl_57, tl_58, tl_59, tl_60, tl_99, tl_100, tl_101, tl_108, tl_109, tl_116, tl_120, tl_126, tl_374, tl_1122, tl_50000, i10, i01, tl_m1, tl_m2, tl_m3, tl_m4, nr_X7_turnWay, tX7_turnWay_0, tX7_turnWay_1, tX7_turnWay_2, tX7_turnWay_3, tX7_turnWay_6, tX7_turnWay_7, tX7_turnWay_10, tX7_turnWay_11, tX7_turnWay_12, tX7_turnWay_13, tX7_turnWay_14, tX7_turnWay_15, tX7_turnWay_18, tX7_turnWay_19, tX7_turnWay_22, tX7_turnWay_23, tX7_turnWay_26, tX7_turnWay_27, tX7_turnWay_28, tX7_turnWay_29, tX7_turnWay_30, tX7_turnWay_33, tX7_turnWay_34, tX7_turnWay_35, tX7_turnWay_36, tX7_turnWay_39, tX7_turnWay_41, tX7_turnWay_42, tX7_turnWay_43, tX7_turnWay_44, tX7_turnWay_45, tX7_turnWay_48, tX7_turnWay_49, tX7_turnWay_52, tX7_turnWay_53, tX7_turnWay_54, tX7_turnWay_55, tX7_turnWay_56, tX7_turnWay_59, pw_QK_s, h1, h2, h3, w_n, w_turnBehind]
        simp (disch := omega) only [ix_l, ix_n, ix_0, ix_1, ix_2, ix_3, ix_4, ix_5, ix_6, ix_7, ix_8, ix_9, ix_10, ix_11, ix_12, ix_13, ix_14, ix_15, ix_20, ix_100, ix_374, jx_100, jx_11, jx_374, kx_374, cl_nI, in_nI, Nat.add_zero, true_and, up_set, set_s, set_set, set_n, cpy_s0, cpy_sd, cpy_ss, nI_add, nI_pos, false_implies, not_false_eq_true, forall_const, ti_nI]
        have hT1 : S (16 + 25 * j + 1) = 1 → posF (fun i => S (16 + 25 * j + 4 + i)) x (vN S (16 + 25 * j + 3)) < vN S (16 + 25 * j + 3) := by
          by_cases hj0 : j = 0
          · subst hj0; rw [wayS_0] at hT; exact hT.1
          · rw [wayS_s hI (by omega) hj] at hT; exact hT.1
        refine ⟨fun q => next S Agr.rf (by rw [if_neg q]), fun q => ⟨by omega, hb.2.2, hT1 q, next _ (turnB_agr hj hb.2.2.2 (hT1 q)) (by rw [if_pos q])⟩⟩
    have := loop 6 _ (nI k) (nI k) (I (o + 1)) (by have := (hI.2.2.2.2.2.1 k hk).1.2; have := hI.1.2.2; omega) (by have := (hI.2.2.2.2.2.1 k hk).1.2; have := hI.1.2.2; omega) hI hT hA
    rw [set_id] at this
    refine pw_go okX7_turnWay (cc [(99, w_l)]) ⟨Nat.le_refl _, Nat.le_refl _⟩ (cc_c (fun Ag I K h => ⟨0, Nat.le_of_ble_eq_true rfl, x_l h⟩) cc_n) (st1 14) 60 ?_
    simp only [vc_s, vq_s, vk_s, e_iconst, e_bipush, e_sipush, e_ldc, e_ldc_w, e_iload_n, e_iload, e_aload_n, e_aload, e_istore_n, e_istore, e_astore_n, e_astore, e_iinc, e_iadd, e_isub, e_imul, e_iand, e_ior, e_ixor, e_idiv, e_irem, e_ishl, e_ishr, e_iushr, e_i2c, e_dup, e_dup2, e_pop, e_goto, e_ifCond, e_if_icmp, e_tableswitch, e_lookupswitch, e_getfield_i, e_getfield_r, e_putfield_i, e_putfield_z, e_iaload, e_caload, e_aaload, e_iastore, e_castore, e_arraylength, e_invokestatic, e_invokevirtual, e_ireturn, e_return_, s_i_c, s_r_c, s_v_i, s_v_r, s_l_0, s_l_1, s_l_2, s_l_3, s_l_4, s_l_5, s_l_6, s_a_0, s_a_1, s_a_2, s_a_3, s_m_0, s_m_i, s_m_r, s_m_i7, s_m_r7, s_m_i6, s_m_r6, s_m_i5, s_m_r5, s_m_i4, s_m_r4, s_w_n, s_w_c, s_p_eq, s_p_ne, s_p_lt, s_p_ge, s_p_gt, s_p_le, nk_i, nk_z, nk_c, rf_s, ov_s, ov_n, fin0, fin1, fin2, fin3, cond_true, cond_false, List.set_cons_zero, List.set_cons_succ, List.length_cons, List.length_nil, true_and, and_true, true_or, or_true, implies_true, forall_const, not_true_eq_false, not_false_eq_true, false_implies, Nat.reduceAdd, Nat.reduceLT, Nat.reduceBEq, Nat.reduceEqDiff, Bool.or_false, Bool.false_or, Bool.or_true, Bool.true_or, beq_self_eq_true, Nat.reduceLeDiff, Nat.reduceMul, Nat.reduceSub, eq_self, Nat.reduceBneDiff, st0_s, st1_s, st2_s, st3_s, reduceCtorEq, cc_s, cc_0, tl_0, cl_0, il_0, tl_1, cl_1, il_1, tl_2, cl_2, il_2, tl_3, cl_3, il_3, tl_4, cl_4, il_4, tl_5, cl_5, il_5, tl_6, cl_6, il_6, tl_7, cl_7, il_7, tl_8, cl_8, il_8, tl_9, cl_9, il_9, tl_10, cl_10, il_10, tl_11, cl_11, il_11, tl_12, cl_12, il_12, tl_13, cl_13, il_13, tl_14, cl_14, il_14, tl_15, cl_15, il_15, tl_16, cl_16, il_16, tl_20, tl_21, tl_25, tl_32, tl_48, tl_50, tl_57, tl_58, tl_59, tl_60, tl_99, tl_100, tl_101, tl_108, tl_109, tl_116, tl_120, tl_126, tl_374, tl_1122, tl_50000, i10, i01, tl_m1, tl_m2, tl_m3, tl_m4, nr_X7_turnWay, tX7_turnWay_0, tX7_turnWay_1, tX7_turnWay_2, tX7_turnWay_3, tX7_turnWay_6, tX7_turnWay_7, tX7_turnWay_10, tX7_turnWay_11, tX7_turnWay_12, tX7_turnWay_13, tX7_turnWay_14, tX7_turnWay_15, tX7_turnWay_18, tX7_turnWay_19, tX7_turnWay_22, tX7_turnWay_23, tX7_turnWay_26, tX7_turnWay_27, tX7_turnWay_28, tX7_turnWay_29, tX7_turnWay_30, tX7_turnWay_33, tX7_turnWay_34, tX7_turnWay_35, tX7_turnWay_36, tX7_turnWay_39, tX7_turnWay_41, tX7_turnWay_42, tX7_turnWay_43, tX7_turnWay_44, tX7_turnWay_45, tX7_turnWay_48, tX7_turnWay_49, tX7_turnWay_52, tX7_turnWay_53, tX7_turnWay_54, tX7_turnWay_55, tX7_turnWay_56, tX7_turnWay_59, pw_QK_s, h1, h2, h3, w_l]
    simp (disch := omega) only [ix_l, ix_n, ix_0, ix_1, ix_2, ix_3, ix_4, ix_5, ix_6, ix_7, ix_8, ix_9, ix_10, ix_11, ix_12, ix_13, ix_14, ix_15, ix_20, ix_100, ix_374, jx_100, jx_11, jx_374, kx_374, cl_nI, in_nI, Nat.add_zero, true_and, up_set, set_s, set_set, set_n, cpy_s0, cpy_sd, cpy_ss, nI_add]
    rw [(hI.2.2.2.2.2.1 k hk).1.1]
    exact this
  · exact h.elim
end MOD3
end
