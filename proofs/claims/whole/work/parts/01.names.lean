/-- a private method of a class that the tables say can be made, by its rows of tables_1 -/
def lw_okq (q : MethodName × Nat) : Prop := (q.1.cls ≠ "java/lang/invoke/MethodHandle" ∧ q.1.cls ≠ "java/lang/invoke/VarHandle") ∧ Cond.instantiable q.1.cls q.2 ∈ tables_1 ∧ Cond.privateMethod q.1 ∈ tables_1 ∧ Cond.instanceMethod q.1 ∈ tables_1
theorem lw_p0 : lw_okq (⟨"LampRanks$History", "dropOldest", "()V"⟩, 2) := ⟨⟨by decide +kernel, by decide +kernel⟩, List.mem_of_getElem? (i := 165) (by decide +kernel), List.mem_of_getElem? (i := 274) (by decide +kernel), List.mem_of_getElem? (i := 275) (by decide +kernel)⟩
theorem lw_p1 : lw_okq (⟨"LampRanks$Board", "linesBelow", "(I)I"⟩, 12) := ⟨⟨by decide +kernel, by decide +kernel⟩, List.mem_of_getElem? (i := 21) (by decide +kernel), List.mem_of_getElem? (i := 319) (by decide +kernel), List.mem_of_getElem? (i := 320) (by decide +kernel)⟩
theorem lw_p2 : lw_okq (⟨"LampRanks$Board", "lowestRank", "()I"⟩, 12) := ⟨⟨by decide +kernel, by decide +kernel⟩, List.mem_of_getElem? (i := 21) (by decide +kernel), List.mem_of_getElem? (i := 347) (by decide +kernel), List.mem_of_getElem? (i := 348) (by decide +kernel)⟩
theorem lw_p3 : lw_okq (⟨"LampRanks$Board", "isReady", "(II)Z"⟩, 12) := ⟨⟨by decide +kernel, by decide +kernel⟩, List.mem_of_getElem? (i := 21) (by decide +kernel), List.mem_of_getElem? (i := 358) (by decide +kernel), List.mem_of_getElem? (i := 359) (by decide +kernel)⟩
theorem lw_p4 : lw_okq (⟨"LampRanks$Board", "isMasked", "(I)Z"⟩, 12) := ⟨⟨by decide +kernel, by decide +kernel⟩, List.mem_of_getElem? (i := 21) (by decide +kernel), List.mem_of_getElem? (i := 362) (by decide +kernel), List.mem_of_getElem? (i := 363) (by decide +kernel)⟩
theorem lw_p5 : lw_okq (⟨"LampRanks$Board", "turnInputs", "(I)V"⟩, 12) := ⟨⟨by decide +kernel, by decide +kernel⟩, List.mem_of_getElem? (i := 21) (by decide +kernel), List.mem_of_getElem? (i := 414) (by decide +kernel), List.mem_of_getElem? (i := 415) (by decide +kernel)⟩
theorem lw_p6 : lw_okq (⟨"LampRanks$Board", "queueAcknowledge", "(I)V"⟩, 12) := ⟨⟨by decide +kernel, by decide +kernel⟩, List.mem_of_getElem? (i := 21) (by decide +kernel), List.mem_of_getElem? (i := 436) (by decide +kernel), List.mem_of_getElem? (i := 437) (by decide +kernel)⟩
theorem lw_p7 : lw_okq (⟨"LampRanks$Board", "acknowledgeDue", "()I"⟩, 12) := ⟨⟨by decide +kernel, by decide +kernel⟩, List.mem_of_getElem? (i := 21) (by decide +kernel), List.mem_of_getElem? (i := 440) (by decide +kernel), List.mem_of_getElem? (i := 441) (by decide +kernel)⟩
theorem lw_p8 : lw_okq (⟨"LampRanks$Board", "allEdges", "()I"⟩, 12) := ⟨⟨by decide +kernel, by decide +kernel⟩, List.mem_of_getElem? (i := 21) (by decide +kernel), List.mem_of_getElem? (i := 509) (by decide +kernel), List.mem_of_getElem? (i := 510) (by decide +kernel)⟩
theorem lw_p9 : lw_okq (⟨"LampRanks$Board", "allLost", "()I"⟩, 12) := ⟨⟨by decide +kernel, by decide +kernel⟩, List.mem_of_getElem? (i := 21) (by decide +kernel), List.mem_of_getElem? (i := 513) (by decide +kernel), List.mem_of_getElem? (i := 514) (by decide +kernel)⟩
theorem lw_p10 : lw_okq (⟨"LampRanks$Board", "edgeLineSet", "()I"⟩, 12) := ⟨⟨by decide +kernel, by decide +kernel⟩, List.mem_of_getElem? (i := 21) (by decide +kernel), List.mem_of_getElem? (i := 517) (by decide +kernel), List.mem_of_getElem? (i := 518) (by decide +kernel)⟩
theorem lw_p11 : lw_okq (⟨"LampRanks$Board", "allTaken", "(Z)I"⟩, 12) := ⟨⟨by decide +kernel, by decide +kernel⟩, List.mem_of_getElem? (i := 21) (by decide +kernel), List.mem_of_getElem? (i := 521) (by decide +kernel), List.mem_of_getElem? (i := 522) (by decide +kernel)⟩
theorem lw_p12 : lw_okq (⟨"LampRanks$EventText", "readEvent", "()Z"⟩, 7) := ⟨⟨by decide +kernel, by decide +kernel⟩, List.mem_of_getElem? (i := 182) (by decide +kernel), List.mem_of_getElem? (i := 558) (by decide +kernel), List.mem_of_getElem? (i := 559) (by decide +kernel)⟩
theorem lw_p13 : lw_okq (⟨"LampRanks$EventText", "signAt", "(I)C"⟩, 7) := ⟨⟨by decide +kernel, by decide +kernel⟩, List.mem_of_getElem? (i := 182) (by decide +kernel), List.mem_of_getElem? (i := 562) (by decide +kernel), List.mem_of_getElem? (i := 563) (by decide +kernel)⟩
theorem lw_p14 : lw_okq (⟨"LampRanks$EventText", "readNumber", "()I"⟩, 7) := ⟨⟨by decide +kernel, by decide +kernel⟩, List.mem_of_getElem? (i := 182) (by decide +kernel), List.mem_of_getElem? (i := 566) (by decide +kernel), List.mem_of_getElem? (i := 567) (by decide +kernel)⟩
theorem lw_p15 : lw_okq (⟨"LampRanks$EventText", "digitAt", "(I)I"⟩, 7) := ⟨⟨by decide +kernel, by decide +kernel⟩, List.mem_of_getElem? (i := 182) (by decide +kernel), List.mem_of_getElem? (i := 570) (by decide +kernel), List.mem_of_getElem? (i := 571) (by decide +kernel)⟩
def lw_privs_1 : List (MethodName × Nat) := [(⟨"LampRanks$History", "dropOldest", "()V"⟩, 2), (⟨"LampRanks$Board", "linesBelow", "(I)I"⟩, 12), (⟨"LampRanks$Board", "lowestRank", "()I"⟩, 12), (⟨"LampRanks$Board", "isReady", "(II)Z"⟩, 12), (⟨"LampRanks$Board", "isMasked", "(I)Z"⟩, 12), (⟨"LampRanks$Board", "turnInputs", "(I)V"⟩, 12), (⟨"LampRanks$Board", "queueAcknowledge", "(I)V"⟩, 12), (⟨"LampRanks$Board", "acknowledgeDue", "()I"⟩, 12), (⟨"LampRanks$Board", "allEdges", "()I"⟩, 12), (⟨"LampRanks$Board", "allLost", "()I"⟩, 12), (⟨"LampRanks$Board", "edgeLineSet", "()I"⟩, 12), (⟨"LampRanks$Board", "allTaken", "(Z)I"⟩, 12), (⟨"LampRanks$EventText", "readEvent", "()Z"⟩, 7), (⟨"LampRanks$EventText", "signAt", "(I)C"⟩, 7), (⟨"LampRanks$EventText", "readNumber", "()I"⟩, 7), (⟨"LampRanks$EventText", "digitAt", "(I)I"⟩, 7)]
theorem lw_r1 : ∀ q ∈ lw_privs_1, lw_okq q := List.forall_mem_cons.mpr ⟨lw_p0, List.forall_mem_cons.mpr ⟨lw_p1, List.forall_mem_cons.mpr ⟨lw_p2, List.forall_mem_cons.mpr ⟨lw_p3, List.forall_mem_cons.mpr ⟨lw_p4, List.forall_mem_cons.mpr ⟨lw_p5, List.forall_mem_cons.mpr ⟨lw_p6, List.forall_mem_cons.mpr ⟨lw_p7, List.forall_mem_cons.mpr ⟨lw_p8, List.forall_mem_cons.mpr ⟨lw_p9, List.forall_mem_cons.mpr ⟨lw_p10, List.forall_mem_cons.mpr ⟨lw_p11, List.forall_mem_cons.mpr ⟨lw_p12, List.forall_mem_cons.mpr ⟨lw_p13, List.forall_mem_cons.mpr ⟨lw_p14, List.forall_mem_cons.mpr ⟨lw_p15, fun _ h => absurd h List.not_mem_nil⟩⟩⟩⟩⟩⟩⟩⟩⟩⟩⟩⟩⟩⟩⟩⟩
theorem lw_p16 : lw_okq (⟨"LampRanks$EventText", "readSign", "(C)Z"⟩, 7) := ⟨⟨by decide +kernel, by decide +kernel⟩, List.mem_of_getElem? (i := 182) (by decide +kernel), List.mem_of_getElem? (i := 574) (by decide +kernel), List.mem_of_getElem? (i := 575) (by decide +kernel)⟩
theorem lw_p17 : lw_okq (⟨"LampRanks$EventText", "answerOf", "(LLampRanks$Board;)I"⟩, 7) := ⟨⟨by decide +kernel, by decide +kernel⟩, List.mem_of_getElem? (i := 182) (by decide +kernel), List.mem_of_getElem? (i := 578) (by decide +kernel), List.mem_of_getElem? (i := 579) (by decide +kernel)⟩
theorem lw_p18 : lw_okq (⟨"LampRanksModel", "isNode", "(I)Z"⟩, 13) := ⟨⟨by decide +kernel, by decide +kernel⟩, List.mem_of_getElem? (i := 595) (by decide +kernel), List.mem_of_getElem? (i := 645) (by decide +kernel), List.mem_of_getElem? (i := 646) (by decide +kernel)⟩
theorem lw_p19 : lw_okq (⟨"LampRanksModel", "record", "()V"⟩, 13) := ⟨⟨by decide +kernel, by decide +kernel⟩, List.mem_of_getElem? (i := 595) (by decide +kernel), List.mem_of_getElem? (i := 655) (by decide +kernel), List.mem_of_getElem? (i := 656) (by decide +kernel)⟩
theorem lw_p20 : lw_okq (⟨"LampRanksModel", "hang", "(II)V"⟩, 13) := ⟨⟨by decide +kernel, by decide +kernel⟩, List.mem_of_getElem? (i := 595) (by decide +kernel), List.mem_of_getElem? (i := 662) (by decide +kernel), List.mem_of_getElem? (i := 663) (by decide +kernel)⟩
theorem lw_p21 : lw_okq (⟨"LampRanksModel", "isLine", "(I)Z"⟩, 13) := ⟨⟨by decide +kernel, by decide +kernel⟩, List.mem_of_getElem? (i := 595) (by decide +kernel), List.mem_of_getElem? (i := 677) (by decide +kernel), List.mem_of_getElem? (i := 678) (by decide +kernel)⟩
theorem lw_p22 : lw_okq (⟨"LampRanksModel", "linesOf", "(I)I"⟩, 13) := ⟨⟨by decide +kernel, by decide +kernel⟩, List.mem_of_getElem? (i := 595) (by decide +kernel), List.mem_of_getElem? (i := 681) (by decide +kernel), List.mem_of_getElem? (i := 682) (by decide +kernel)⟩
theorem lw_p23 : lw_okq (⟨"LampRanksModel", "isOf", "(II)Z"⟩, 13) := ⟨⟨by decide +kernel, by decide +kernel⟩, List.mem_of_getElem? (i := 595) (by decide +kernel), List.mem_of_getElem? (i := 685) (by decide +kernel), List.mem_of_getElem? (i := 686) (by decide +kernel)⟩
theorem lw_p24 : lw_okq (⟨"LampRanksModel", "isReady", "(I)Z"⟩, 13) := ⟨⟨by decide +kernel, by decide +kernel⟩, List.mem_of_getElem? (i := 595) (by decide +kernel), List.mem_of_getElem? (i := 689) (by decide +kernel), List.mem_of_getElem? (i := 690) (by decide +kernel)⟩
theorem lw_p25 : lw_okq (⟨"LampRanksModel", "isHidden", "(I)Z"⟩, 13) := ⟨⟨by decide +kernel, by decide +kernel⟩, List.mem_of_getElem? (i := 595) (by decide +kernel), List.mem_of_getElem? (i := 693) (by decide +kernel), List.mem_of_getElem? (i := 694) (by decide +kernel)⟩
theorem lw_p26 : lw_okq (⟨"LampRanksModel", "linesBy", "(I)I"⟩, 13) := ⟨⟨by decide +kernel, by decide +kernel⟩, List.mem_of_getElem? (i := 595) (by decide +kernel), List.mem_of_getElem? (i := 704) (by decide +kernel), List.mem_of_getElem? (i := 705) (by decide +kernel)⟩
theorem lw_p27 : lw_okq (⟨"LampRanksModel", "isOnWay", "(II)Z"⟩, 13) := ⟨⟨by decide +kernel, by decide +kernel⟩, List.mem_of_getElem? (i := 595) (by decide +kernel), List.mem_of_getElem? (i := 708) (by decide +kernel), List.mem_of_getElem? (i := 709) (by decide +kernel)⟩
theorem lw_p28 : lw_okq (⟨"LampRanksModel", "litState", "(II)I"⟩, 13) := ⟨⟨by decide +kernel, by decide +kernel⟩, List.mem_of_getElem? (i := 595) (by decide +kernel), List.mem_of_getElem? (i := 724) (by decide +kernel), List.mem_of_getElem? (i := 725) (by decide +kernel)⟩
theorem lw_p29 : lw_okq (⟨"LampRanksModel", "goEdge", "(I)I"⟩, 13) := ⟨⟨by decide +kernel, by decide +kernel⟩, List.mem_of_getElem? (i := 595) (by decide +kernel), List.mem_of_getElem? (i := 740) (by decide +kernel), List.mem_of_getElem? (i := 741) (by decide +kernel)⟩
theorem lw_p30 : lw_okq (⟨"LampRanksModel", "canLevel", "(II)Z"⟩, 13) := ⟨⟨by decide +kernel, by decide +kernel⟩, List.mem_of_getElem? (i := 595) (by decide +kernel), List.mem_of_getElem? (i := 748) (by decide +kernel), List.mem_of_getElem? (i := 749) (by decide +kernel)⟩
theorem lw_p31 : lw_okq (⟨"LampRanksModel", "nextLine", "()I"⟩, 13) := ⟨⟨by decide +kernel, by decide +kernel⟩, List.mem_of_getElem? (i := 595) (by decide +kernel), List.mem_of_getElem? (i := 756) (by decide +kernel), List.mem_of_getElem? (i := 757) (by decide +kernel)⟩
def lw_privs_2 : List (MethodName × Nat) := [(⟨"LampRanks$EventText", "readSign", "(C)Z"⟩, 7), (⟨"LampRanks$EventText", "answerOf", "(LLampRanks$Board;)I"⟩, 7), (⟨"LampRanksModel", "isNode", "(I)Z"⟩, 13), (⟨"LampRanksModel", "record", "()V"⟩, 13), (⟨"LampRanksModel", "hang", "(II)V"⟩, 13), (⟨"LampRanksModel", "isLine", "(I)Z"⟩, 13), (⟨"LampRanksModel", "linesOf", "(I)I"⟩, 13), (⟨"LampRanksModel", "isOf", "(II)Z"⟩, 13), (⟨"LampRanksModel", "isReady", "(I)Z"⟩, 13), (⟨"LampRanksModel", "isHidden", "(I)Z"⟩, 13), (⟨"LampRanksModel", "linesBy", "(I)I"⟩, 13), (⟨"LampRanksModel", "isOnWay", "(II)Z"⟩, 13), (⟨"LampRanksModel", "litState", "(II)I"⟩, 13), (⟨"LampRanksModel", "goEdge", "(I)I"⟩, 13), (⟨"LampRanksModel", "canLevel", "(II)Z"⟩, 13), (⟨"LampRanksModel", "nextLine", "()I"⟩, 13)]
theorem lw_r2 : ∀ q ∈ lw_privs_2, lw_okq q := List.forall_mem_cons.mpr ⟨lw_p16, List.forall_mem_cons.mpr ⟨lw_p17, List.forall_mem_cons.mpr ⟨lw_p18, List.forall_mem_cons.mpr ⟨lw_p19, List.forall_mem_cons.mpr ⟨lw_p20, List.forall_mem_cons.mpr ⟨lw_p21, List.forall_mem_cons.mpr ⟨lw_p22, List.forall_mem_cons.mpr ⟨lw_p23, List.forall_mem_cons.mpr ⟨lw_p24, List.forall_mem_cons.mpr ⟨lw_p25, List.forall_mem_cons.mpr ⟨lw_p26, List.forall_mem_cons.mpr ⟨lw_p27, List.forall_mem_cons.mpr ⟨lw_p28, List.forall_mem_cons.mpr ⟨lw_p29, List.forall_mem_cons.mpr ⟨lw_p30, List.forall_mem_cons.mpr ⟨lw_p31, fun _ h => absurd h List.not_mem_nil⟩⟩⟩⟩⟩⟩⟩⟩⟩⟩⟩⟩⟩⟩⟩⟩
theorem lw_p32 : lw_okq (⟨"LampRanksModel", "layOrder", "()V"⟩, 13) := ⟨⟨by decide +kernel, by decide +kernel⟩, List.mem_of_getElem? (i := 595) (by decide +kernel), List.mem_of_getElem? (i := 760) (by decide +kernel), List.mem_of_getElem? (i := 761) (by decide +kernel)⟩
theorem lw_p33 : lw_okq (⟨"LampRanksModel", "goTake", "(I)V"⟩, 13) := ⟨⟨by decide +kernel, by decide +kernel⟩, List.mem_of_getElem? (i := 595) (by decide +kernel), List.mem_of_getElem? (i := 764) (by decide +kernel), List.mem_of_getElem? (i := 765) (by decide +kernel)⟩
theorem lw_p34 : lw_okq (⟨"LampRanksModel", "turnWay", "(I)V"⟩, 13) := ⟨⟨by decide +kernel, by decide +kernel⟩, List.mem_of_getElem? (i := 595) (by decide +kernel), List.mem_of_getElem? (i := 768) (by decide +kernel), List.mem_of_getElem? (i := 769) (by decide +kernel)⟩
theorem lw_p35 : lw_okq (⟨"LampRanksModel", "turnBehind", "(II)V"⟩, 13) := ⟨⟨by decide +kernel, by decide +kernel⟩, List.mem_of_getElem? (i := 595) (by decide +kernel), List.mem_of_getElem? (i := 772) (by decide +kernel), List.mem_of_getElem? (i := 773) (by decide +kernel)⟩
theorem lw_p36 : lw_okq (⟨"LampRanksModel", "goDone", "()I"⟩, 13) := ⟨⟨by decide +kernel, by decide +kernel⟩, List.mem_of_getElem? (i := 595) (by decide +kernel), List.mem_of_getElem? (i := 780) (by decide +kernel), List.mem_of_getElem? (i := 781) (by decide +kernel)⟩
theorem lw_p37 : lw_okq (⟨"LampRanksModel", "goTicks", "(I)I"⟩, 13) := ⟨⟨by decide +kernel, by decide +kernel⟩, List.mem_of_getElem? (i := 595) (by decide +kernel), List.mem_of_getElem? (i := 789) (by decide +kernel), List.mem_of_getElem? (i := 790) (by decide +kernel)⟩
theorem lw_p38 : lw_okq (⟨"LampRanksModel", "layAside", "()V"⟩, 13) := ⟨⟨by decide +kernel, by decide +kernel⟩, List.mem_of_getElem? (i := 595) (by decide +kernel), List.mem_of_getElem? (i := 801) (by decide +kernel), List.mem_of_getElem? (i := 802) (by decide +kernel)⟩
theorem lw_p39 : lw_okq (⟨"LampRanksModel", "layBack", "()V"⟩, 13) := ⟨⟨by decide +kernel, by decide +kernel⟩, List.mem_of_getElem? (i := 595) (by decide +kernel), List.mem_of_getElem? (i := 805) (by decide +kernel), List.mem_of_getElem? (i := 806) (by decide +kernel)⟩
theorem lw_p40 : lw_okq (⟨"LampRanksModel", "isAhead", "(II)Z"⟩, 13) := ⟨⟨by decide +kernel, by decide +kernel⟩, List.mem_of_getElem? (i := 595) (by decide +kernel), List.mem_of_getElem? (i := 817) (by decide +kernel), List.mem_of_getElem? (i := 818) (by decide +kernel)⟩
theorem lw_p41 : lw_okq (⟨"LampRanksModel", "litEdges", "()I"⟩, 13) := ⟨⟨by decide +kernel, by decide +kernel⟩, List.mem_of_getElem? (i := 595) (by decide +kernel), List.mem_of_getElem? (i := 829) (by decide +kernel), List.mem_of_getElem? (i := 830) (by decide +kernel)⟩
theorem lw_p42 : lw_okq (⟨"LampRanksModel", "run", "()I"⟩, 13) := ⟨⟨by decide +kernel, by decide +kernel⟩, List.mem_of_getElem? (i := 595) (by decide +kernel), List.mem_of_getElem? (i := 849) (by decide +kernel), List.mem_of_getElem? (i := 850) (by decide +kernel)⟩
theorem lw_p43 : lw_okq (⟨"LampRanksModel", "isForm", "(I)Z"⟩, 13) := ⟨⟨by decide +kernel, by decide +kernel⟩, List.mem_of_getElem? (i := 595) (by decide +kernel), List.mem_of_getElem? (i := 856) (by decide +kernel), List.mem_of_getElem? (i := 857) (by decide +kernel)⟩
theorem lw_p44 : lw_okq (⟨"LampRanksModel", "number", "()I"⟩, 13) := ⟨⟨by decide +kernel, by decide +kernel⟩, List.mem_of_getElem? (i := 595) (by decide +kernel), List.mem_of_getElem? (i := 860) (by decide +kernel), List.mem_of_getElem? (i := 861) (by decide +kernel)⟩
theorem lw_p45 : lw_okq (⟨"LampRanksModel", "sees", "(I)Z"⟩, 13) := ⟨⟨by decide +kernel, by decide +kernel⟩, List.mem_of_getElem? (i := 595) (by decide +kernel), List.mem_of_getElem? (i := 864) (by decide +kernel), List.mem_of_getElem? (i := 865) (by decide +kernel)⟩
theorem lw_p46 : lw_okq (⟨"LampRanksModel", "isRange", "(I)Z"⟩, 13) := ⟨⟨by decide +kernel, by decide +kernel⟩, List.mem_of_getElem? (i := 595) (by decide +kernel), List.mem_of_getElem? (i := 868) (by decide +kernel), List.mem_of_getElem? (i := 869) (by decide +kernel)⟩
theorem lw_p47 : lw_okq (⟨"LampRanksModel", "isPossible", "(I)Z"⟩, 13) := ⟨⟨by decide +kernel, by decide +kernel⟩, List.mem_of_getElem? (i := 595) (by decide +kernel), List.mem_of_getElem? (i := 872) (by decide +kernel), List.mem_of_getElem? (i := 873) (by decide +kernel)⟩
def lw_privs_3 : List (MethodName × Nat) := [(⟨"LampRanksModel", "layOrder", "()V"⟩, 13), (⟨"LampRanksModel", "goTake", "(I)V"⟩, 13), (⟨"LampRanksModel", "turnWay", "(I)V"⟩, 13), (⟨"LampRanksModel", "turnBehind", "(II)V"⟩, 13), (⟨"LampRanksModel", "goDone", "()I"⟩, 13), (⟨"LampRanksModel", "goTicks", "(I)I"⟩, 13), (⟨"LampRanksModel", "layAside", "()V"⟩, 13), (⟨"LampRanksModel", "layBack", "()V"⟩, 13), (⟨"LampRanksModel", "isAhead", "(II)Z"⟩, 13), (⟨"LampRanksModel", "litEdges", "()I"⟩, 13), (⟨"LampRanksModel", "run", "()I"⟩, 13), (⟨"LampRanksModel", "isForm", "(I)Z"⟩, 13), (⟨"LampRanksModel", "number", "()I"⟩, 13), (⟨"LampRanksModel", "sees", "(I)Z"⟩, 13), (⟨"LampRanksModel", "isRange", "(I)Z"⟩, 13), (⟨"LampRanksModel", "isPossible", "(I)Z"⟩, 13)]
theorem lw_r3 : ∀ q ∈ lw_privs_3, lw_okq q := List.forall_mem_cons.mpr ⟨lw_p32, List.forall_mem_cons.mpr ⟨lw_p33, List.forall_mem_cons.mpr ⟨lw_p34, List.forall_mem_cons.mpr ⟨lw_p35, List.forall_mem_cons.mpr ⟨lw_p36, List.forall_mem_cons.mpr ⟨lw_p37, List.forall_mem_cons.mpr ⟨lw_p38, List.forall_mem_cons.mpr ⟨lw_p39, List.forall_mem_cons.mpr ⟨lw_p40, List.forall_mem_cons.mpr ⟨lw_p41, List.forall_mem_cons.mpr ⟨lw_p42, List.forall_mem_cons.mpr ⟨lw_p43, List.forall_mem_cons.mpr ⟨lw_p44, List.forall_mem_cons.mpr ⟨lw_p45, List.forall_mem_cons.mpr ⟨lw_p46, List.forall_mem_cons.mpr ⟨lw_p47, fun _ h => absurd h List.not_mem_nil⟩⟩⟩⟩⟩⟩⟩⟩⟩⟩⟩⟩⟩⟩⟩⟩
theorem lw_p48 : lw_okq (⟨"LampRanksModel", "goEvent", "(I)V"⟩, 13) := ⟨⟨by decide +kernel, by decide +kernel⟩, List.mem_of_getElem? (i := 595) (by decide +kernel), List.mem_of_getElem? (i := 876) (by decide +kernel), List.mem_of_getElem? (i := 877) (by decide +kernel)⟩
def lw_privs_4 : List (MethodName × Nat) := [(⟨"LampRanksModel", "goEvent", "(I)V"⟩, 13)]
theorem lw_r4 : ∀ q ∈ lw_privs_4, lw_okq q := List.forall_mem_cons.mpr ⟨lw_p48, fun _ h => absurd h List.not_mem_nil⟩
def lw_privs : List (MethodName × Nat) := lw_privs_1 ++ (lw_privs_2 ++ (lw_privs_3 ++ (lw_privs_4)))
def lw_tbl : List Cond := k2_sels lw_privs ++ tables_1
theorem lw_privs_ok : ∀ q ∈ lw_privs, lw_okq q := by
  show ∀ q ∈ lw_privs_1 ++ (lw_privs_2 ++ (lw_privs_3 ++ (lw_privs_4))), lw_okq q
  exact List.forall_mem_append.mpr ⟨lw_r1, List.forall_mem_append.mpr ⟨lw_r2, List.forall_mem_append.mpr ⟨lw_r3, lw_r4⟩⟩⟩
def RX0 : String := "LampRanks$Board"
def TX0 : u_T := fun k => match k with
  | 0 => ("LampRanks$Board", "nodes", "[LLampRanks$Node;", true)
  | 1 => ("LampRanks$Board", "lines", "[LLampRanks$Line;", true)
  | 2 => ("LampRanks$Board", "nodeCount", "I", false)
  | 3 => ("LampRanks$Board", "lineCount", "I", false)
  | 4 => ("LampRanks$Board", "maskedNodes", "I", false)
  | 5 => ("LampRanks$Board", "time", "I", false)
  | 6 => ("LampRanks$Board", "threshold", "I", false)
  | 7 => ("LampRanks$Board", "late", "I", false)
  | 8 => ("LampRanks$Board", "acknowledges", "I", false)
  | 9 => ("LampRanks$Board", "service", "LLampRanks$Row;", true)
  | 10 => ("LampRanks$Board", "waiting", "LLampRanks$Row;", true)
  | _ => ("LampRanks$Board", "walked", "[I", true)
def tyX0 : Nat → FieldType := fun k => match k with
  | 0 => .array (.object "LampRanks$Node")
  | 1 => .array (.object "LampRanks$Line")
  | 2 => .int
  | 3 => .int
  | 4 => .int
  | 5 => .int
  | 6 => .int
  | 7 => .int
  | 8 => .int
  | 9 => .object "LampRanks$Row"
  | 10 => .object "LampRanks$Row"
  | _ => .array .int
abbrev wsX00 : List Cond := u_ws RX0 TX0 12
theorem nmX0 : ∀ a, a < 12 → ∀ b, b < 12 → a ≠ b → (TX0 a).2.1 ≠ (TX0 b).2.1 := by decide +kernel
theorem tyX0_ok : ∀ k, k < 12 → parseFieldDescriptor (TX0 k).2.2.1 = some (tyX0 k) := by decide +kernel
abbrev cX0_init : ByteArray := prog_2_method_1_code
def yX0_init : MethodName := ⟨RX0, "<init>", "()V"⟩
abbrev cX0_copyFrom : ByteArray := prog_2_method_2_code
def yX0_copyFrom : MethodName := ⟨RX0, "copyFrom", "(LLampRanks$Board;)V"⟩
abbrev cX0_hasNode : ByteArray := prog_2_method_3_code
def yX0_hasNode : MethodName := ⟨RX0, "hasNode", "(I)Z"⟩
abbrev cX0_hasLine : ByteArray := prog_2_method_4_code
def yX0_hasLine : MethodName := ⟨RX0, "hasLine", "(I)Z"⟩
abbrev cX0_addNode : ByteArray := prog_2_method_5_code
def yX0_addNode : MethodName := ⟨RX0, "addNode", "(II)I"⟩
abbrev cX0_addLine : ByteArray := prog_2_method_6_code
def yX0_addLine : MethodName := ⟨RX0, "addLine", "(III)I"⟩
abbrev cX0_setLineMask : ByteArray := prog_2_method_7_code
def yX0_setLineMask : MethodName := ⟨RX0, "setLineMask", "(II)I"⟩
abbrev cX0_setNodeMask : ByteArray := prog_2_method_8_code
def yX0_setNodeMask : MethodName := ⟨RX0, "setNodeMask", "(II)I"⟩
abbrev cX0_setThreshold : ByteArray := prog_2_method_9_code
def yX0_setThreshold : MethodName := ⟨RX0, "setThreshold", "(I)I"⟩
abbrev cX0_setLate : ByteArray := prog_2_method_10_code
def yX0_setLate : MethodName := ⟨RX0, "setLate", "(I)I"⟩
abbrev cX0_giveEdge : ByteArray := prog_2_method_11_code
def yX0_giveEdge : MethodName := ⟨RX0, "giveEdge", "(I)I"⟩
abbrev cX0_setLevel : ByteArray := prog_2_method_12_code
def yX0_setLevel : MethodName := ⟨RX0, "setLevel", "(II)I"⟩
abbrev cX0_takeNext : ByteArray := prog_2_method_13_code
def yX0_takeNext : MethodName := ⟨RX0, "takeNext", "()I"⟩
abbrev cX0_endService : ByteArray := prog_2_method_14_code
def yX0_endService : MethodName := ⟨RX0, "endService", "()I"⟩
abbrev cX0_passTicks : ByteArray := prog_2_method_15_code
def yX0_passTicks : MethodName := ⟨RX0, "passTicks", "(I)I"⟩
abbrev cX0_queueAcknowledge : ByteArray := prog_2_method_16_code
def yX0_queueAcknowledge : MethodName := ⟨RX0, "queueAcknowledge", "(I)V"⟩
abbrev cX0_acknowledgeDue : ByteArray := prog_2_method_17_code
def yX0_acknowledgeDue : MethodName := ⟨RX0, "acknowledgeDue", "()I"⟩
abbrev cX0_turnInputs : ByteArray := prog_2_method_18_code
def yX0_turnInputs : MethodName := ⟨RX0, "turnInputs", "(I)V"⟩
abbrev cX0_nextLine : ByteArray := prog_2_method_19_code
def yX0_nextLine : MethodName := ⟨RX0, "nextLine", "()I"⟩
abbrev cX0_passOver : ByteArray := prog_2_method_20_code
def yX0_passOver : MethodName := ⟨RX0, "passOver", "(I)V"⟩
abbrev cX0_lowestRank : ByteArray := prog_2_method_21_code
def yX0_lowestRank : MethodName := ⟨RX0, "lowestRank", "()I"⟩
abbrev cX0_isReady : ByteArray := prog_2_method_22_code
def yX0_isReady : MethodName := ⟨RX0, "isReady", "(II)Z"⟩
abbrev cX0_isMasked : ByteArray := prog_2_method_23_code
def yX0_isMasked : MethodName := ⟨RX0, "isMasked", "(I)Z"⟩
abbrev cX0_litSet : ByteArray := prog_2_method_24_code
def yX0_litSet : MethodName := ⟨RX0, "litSet", "()I"⟩
abbrev cX0_readySet : ByteArray := prog_2_method_25_code
def yX0_readySet : MethodName := ⟨RX0, "readySet", "()I"⟩
abbrev cX0_stageSet : ByteArray := prog_2_method_26_code
def yX0_stageSet : MethodName := ⟨RX0, "stageSet", "(I)I"⟩
abbrev cX0_ownMaskSet : ByteArray := prog_2_method_27_code
def yX0_ownMaskSet : MethodName := ⟨RX0, "ownMaskSet", "()I"⟩
abbrev cX0_anyMaskSet : ByteArray := prog_2_method_28_code
def yX0_anyMaskSet : MethodName := ⟨RX0, "anyMaskSet", "()I"⟩
abbrev cX0_linesBelow : ByteArray := prog_2_method_29_code
def yX0_linesBelow : MethodName := ⟨RX0, "linesBelow", "(I)I"⟩
abbrev cX0_edgeLineSet : ByteArray := prog_2_method_30_code
def yX0_edgeLineSet : MethodName := ⟨RX0, "edgeLineSet", "()I"⟩
abbrev cX0_tellLine : ByteArray := prog_2_method_31_code
def yX0_tellLine : MethodName := ⟨RX0, "tellLine", "(II)I"⟩
abbrev cX0_tellNode : ByteArray := prog_2_method_32_code
def yX0_tellNode : MethodName := ⟨RX0, "tellNode", "(II)I"⟩
abbrev cX0_tellInput : ByteArray := prog_2_method_33_code
def yX0_tellInput : MethodName := ⟨RX0, "tellInput", "(II)I"⟩
abbrev cX0_tellService : ByteArray := prog_2_method_34_code
def yX0_tellService : MethodName := ⟨RX0, "tellService", "(I)I"⟩
abbrev cX0_tellWaiting : ByteArray := prog_2_method_35_code
def yX0_tellWaiting : MethodName := ⟨RX0, "tellWaiting", "(I)I"⟩
abbrev cX0_tellNumber : ByteArray := prog_2_method_36_code
def yX0_tellNumber : MethodName := ⟨RX0, "tellNumber", "(I)I"⟩
abbrev cX0_allEdges : ByteArray := prog_2_method_37_code
def yX0_allEdges : MethodName := ⟨RX0, "allEdges", "()I"⟩
abbrev cX0_allLost : ByteArray := prog_2_method_38_code
def yX0_allLost : MethodName := ⟨RX0, "allLost", "()I"⟩
abbrev cX0_allTaken : ByteArray := prog_2_method_39_code
def yX0_allTaken : MethodName := ⟨RX0, "allTaken", "(Z)I"⟩
def RX1 : String := "LampRanks$EventText"
def TX1 : u_T := fun k => match k with
  | 0 => ("LampRanks$EventText", "signs", "[C", true)
  | 1 => ("LampRanks$EventText", "length", "I", false)
  | 2 => ("LampRanks$EventText", "start", "I", false)
  | 3 => ("LampRanks$EventText", "end", "I", false)
  | 4 => ("LampRanks$EventText", "first", "I", false)
  | 5 => ("LampRanks$EventText", "second", "I", false)
  | _ => ("LampRanks$EventText", "reason", "I", false)
def tyX1 : Nat → FieldType := fun k => match k with
  | 0 => .array .char
  | 1 => .int
  | 2 => .int
  | 3 => .int
  | 4 => .int
  | 5 => .int
  | _ => .int
abbrev wsX10 : List Cond := u_ws RX1 TX1 7
theorem nmX1 : ∀ a, a < 7 → ∀ b, b < 7 → a ≠ b → (TX1 a).2.1 ≠ (TX1 b).2.1 := by decide +kernel
theorem tyX1_ok : ∀ k, k < 7 → parseFieldDescriptor (TX1 k).2.2.1 = some (tyX1 k) := by decide +kernel
abbrev cX1_init : ByteArray := prog_3_method_1_code
def yX1_init : MethodName := ⟨RX1, "<init>", "()V"⟩
abbrev cX1_append : ByteArray := prog_3_method_2_code
def yX1_append : MethodName := ⟨RX1, "append", "(I)I"⟩
abbrev cX1_makeEmpty : ByteArray := prog_3_method_3_code
def yX1_makeEmpty : MethodName := ⟨RX1, "makeEmpty", "()I"⟩
abbrev cX1_runOn : ByteArray := prog_3_method_4_code
def yX1_runOn : MethodName := ⟨RX1, "runOn", "(LLampRanks$Board;)I"⟩
abbrev cX1_answerOf : ByteArray := prog_3_method_5_code
def yX1_answerOf : MethodName := ⟨RX1, "answerOf", "(LLampRanks$Board;)I"⟩
abbrev cX1_reasonOf : ByteArray := prog_3_method_6_code
def yX1_reasonOf : MethodName := ⟨RX1, "reasonOf", "(I)I"⟩
abbrev cX1_readEvent : ByteArray := prog_3_method_7_code
def yX1_readEvent : MethodName := ⟨RX1, "readEvent", "()Z"⟩
abbrev cX1_readNumber : ByteArray := prog_3_method_8_code
def yX1_readNumber : MethodName := ⟨RX1, "readNumber", "()I"⟩
abbrev cX1_readSign : ByteArray := prog_3_method_9_code
def yX1_readSign : MethodName := ⟨RX1, "readSign", "(C)Z"⟩
abbrev cX1_digitAt : ByteArray := prog_3_method_10_code
def yX1_digitAt : MethodName := ⟨RX1, "digitAt", "(I)I"⟩
abbrev cX1_signAt : ByteArray := prog_3_method_11_code
def yX1_signAt : MethodName := ⟨RX1, "signAt", "(I)C"⟩
def RX2 : String := "LampRanks$History"
def TX2 : u_T := fun k => match k with
  | 0 => ("LampRanks$History", "states", "[LLampRanks$Board;", true)
  | _ => ("LampRanks$History", "size", "I", false)
def tyX2 : Nat → FieldType := fun k => match k with
  | 0 => .array (.object "LampRanks$Board")
  | _ => .int
abbrev wsX20 : List Cond := u_ws RX2 TX2 2
theorem nmX2 : ∀ a, a < 2 → ∀ b, b < 2 → a ≠ b → (TX2 a).2.1 ≠ (TX2 b).2.1 := by decide +kernel
theorem tyX2_ok : ∀ k, k < 2 → parseFieldDescriptor (TX2 k).2.2.1 = some (tyX2 k) := by decide +kernel
abbrev cX2_init : ByteArray := prog_4_method_1_code
def yX2_init : MethodName := ⟨RX2, "<init>", "()V"⟩
abbrev cX2_prepare : ByteArray := prog_4_method_2_code
def yX2_prepare : MethodName := ⟨RX2, "prepare", "(LLampRanks$Board;)V"⟩
abbrev cX2_close : ByteArray := prog_4_method_3_code
def yX2_close : MethodName := ⟨RX2, "close", "(I)I"⟩
abbrev cX2_restore : ByteArray := prog_4_method_4_code
def yX2_restore : MethodName := ⟨RX2, "restore", "(LLampRanks$Board;)I"⟩
abbrev cX2_dropOldest : ByteArray := prog_4_method_5_code
def yX2_dropOldest : MethodName := ⟨RX2, "dropOldest", "()V"⟩
def RX3 : String := "LampRanks$Line"
def TX3 : u_T := fun k => match k with
  | 0 => ("LampRanks$Line", "node", "I", false)
  | 1 => ("LampRanks$Line", "rank", "I", false)
  | 2 => ("LampRanks$Line", "ofLevel", "Z", false)
  | 3 => ("LampRanks$Line", "lit", "Z", false)
  | 4 => ("LampRanks$Line", "masked", "Z", false)
  | 5 => ("LampRanks$Line", "stage", "I", false)
  | 6 => ("LampRanks$Line", "edges", "I", false)
  | 7 => ("LampRanks$Line", "lost", "I", false)
  | 8 => ("LampRanks$Line", "taken", "I", false)
  | 9 => ("LampRanks$Line", "longestWait", "I", false)
  | 10 => ("LampRanks$Line", "litAt", "I", false)
  | 11 => ("LampRanks$Line", "dueAt", "I", false)
  | _ => ("LampRanks$Line", "way", "I", false)
def tyX3 : Nat → FieldType := fun k => match k with
  | 0 => .int
  | 1 => .int
  | 2 => .boolean
  | 3 => .boolean
  | 4 => .boolean
  | 5 => .int
  | 6 => .int
  | 7 => .int
  | 8 => .int
  | 9 => .int
  | 10 => .int
  | 11 => .int
  | _ => .int
abbrev wsX30 : List Cond := u_ws RX3 TX3 13
theorem nmX3 : ∀ a, a < 13 → ∀ b, b < 13 → a ≠ b → (TX3 a).2.1 ≠ (TX3 b).2.1 := by decide +kernel
theorem tyX3_ok : ∀ k, k < 13 → parseFieldDescriptor (TX3 k).2.2.1 = some (tyX3 k) := by decide +kernel
abbrev cX3_init : ByteArray := prog_5_method_1_code
def yX3_init : MethodName := ⟨RX3, "<init>", "()V"⟩
abbrev cX3_copyFrom : ByteArray := prog_5_method_2_code
def yX3_copyFrom : MethodName := ⟨RX3, "copyFrom", "(LLampRanks$Line;)V"⟩
def RX4 : String := "LampRanks$Node"
def TX4 : u_T := fun k => match k with
  | 0 => ("LampRanks$Node", "inputs", "LLampRanks$Row;", true)
  | 1 => ("LampRanks$Node", "on", "I", false)
  | 2 => ("LampRanks$Node", "turning", "Z", false)
  | _ => ("LampRanks$Node", "way", "I", false)
def tyX4 : Nat → FieldType := fun k => match k with
  | 0 => .object "LampRanks$Row"
  | 1 => .int
  | 2 => .boolean
  | _ => .int
abbrev wsX40 : List Cond := u_ws RX4 TX4 4
theorem nmX4 : ∀ a, a < 4 → ∀ b, b < 4 → a ≠ b → (TX4 a).2.1 ≠ (TX4 b).2.1 := by decide +kernel
theorem tyX4_ok : ∀ k, k < 4 → parseFieldDescriptor (TX4 k).2.2.1 = some (tyX4 k) := by decide +kernel
abbrev cX4_init : ByteArray := prog_6_method_1_code
def yX4_init : MethodName := ⟨RX4, "<init>", "()V"⟩
abbrev cX4_copyFrom : ByteArray := prog_6_method_2_code
def yX4_copyFrom : MethodName := ⟨RX4, "copyFrom", "(LLampRanks$Node;)V"⟩
def RX5 : String := "LampRanks$Row"
def TX5 : u_T := fun k => match k with
  | 0 => ("LampRanks$Row", "cells", "[I", true)
  | _ => ("LampRanks$Row", "size", "I", false)
def tyX5 : Nat → FieldType := fun k => match k with
  | 0 => .array .int
  | _ => .int
abbrev wsX50 : List Cond := u_ws RX5 TX5 2
theorem nmX5 : ∀ a, a < 2 → ∀ b, b < 2 → a ≠ b → (TX5 a).2.1 ≠ (TX5 b).2.1 := by decide +kernel
theorem tyX5_ok : ∀ k, k < 2 → parseFieldDescriptor (TX5 k).2.2.1 = some (tyX5 k) := by decide +kernel
abbrev cX5_init : ByteArray := prog_7_method_1_code
def yX5_init : MethodName := ⟨RX5, "<init>", "()V"⟩
abbrev cX5_get : ByteArray := prog_7_method_2_code
def yX5_get : MethodName := ⟨RX5, "get", "(I)I"⟩
abbrev cX5_insert : ByteArray := prog_7_method_3_code
def yX5_insert : MethodName := ⟨RX5, "insert", "(II)V"⟩
abbrev cX5_remove : ByteArray := prog_7_method_4_code
def yX5_remove : MethodName := ⟨RX5, "remove", "(I)V"⟩
abbrev cX5_moveBehind : ByteArray := prog_7_method_5_code
def yX5_moveBehind : MethodName := ⟨RX5, "moveBehind", "(I)V"⟩
abbrev cX5_copyFrom : ByteArray := prog_7_method_6_code
def yX5_copyFrom : MethodName := ⟨RX5, "copyFrom", "(LLampRanks$Row;)V"⟩
def RX6 : String := "LampRanks"
def TX6 : u_T := fun k => match k with
  | 0 => ("LampRanks", "board", "LLampRanks$Board;", true)
  | 1 => ("LampRanks", "trial", "LLampRanks$Board;", true)
  | 2 => ("LampRanks", "history", "LLampRanks$History;", true)
  | _ => ("LampRanks", "text", "LLampRanks$EventText;", true)
def tyX6 : Nat → FieldType := fun k => match k with
  | 0 => .object "LampRanks$Board"
  | 1 => .object "LampRanks$Board"
  | 2 => .object "LampRanks$History"
  | _ => .object "LampRanks$EventText"
abbrev wsX60 : List Cond := u_ws RX6 TX6 4
theorem nmX6 : ∀ a, a < 4 → ∀ b, b < 4 → a ≠ b → (TX6 a).2.1 ≠ (TX6 b).2.1 := by decide +kernel
theorem tyX6_ok : ∀ k, k < 4 → parseFieldDescriptor (TX6 k).2.2.1 = some (tyX6 k) := by decide +kernel
abbrev cX6_init : ByteArray := prog_1_method_1_code
def yX6_init : MethodName := ⟨RX6, "<init>", "()V"⟩
abbrev cX6_node : ByteArray := prog_1_method_2_code
def yX6_node : MethodName := ⟨RX6, "node", "(II)I"⟩
abbrev cX6_line : ByteArray := prog_1_method_3_code
def yX6_line : MethodName := ⟨RX6, "line", "(III)I"⟩
abbrev cX6_mask : ByteArray := prog_1_method_4_code
def yX6_mask : MethodName := ⟨RX6, "mask", "(II)I"⟩
abbrev cX6_maskNode : ByteArray := prog_1_method_5_code
def yX6_maskNode : MethodName := ⟨RX6, "maskNode", "(II)I"⟩
abbrev cX6_threshold : ByteArray := prog_1_method_6_code
def yX6_threshold : MethodName := ⟨RX6, "threshold", "(I)I"⟩
abbrev cX6_late : ByteArray := prog_1_method_7_code
def yX6_late : MethodName := ⟨RX6, "late", "(I)I"⟩
abbrev cX6_lineOf : ByteArray := prog_1_method_8_code
def yX6_lineOf : MethodName := ⟨RX6, "lineOf", "(II)I"⟩
abbrev cX6_nodeOf : ByteArray := prog_1_method_9_code
def yX6_nodeOf : MethodName := ⟨RX6, "nodeOf", "(II)I"⟩
abbrev cX6_inputAt : ByteArray := prog_1_method_10_code
def yX6_inputAt : MethodName := ⟨RX6, "inputAt", "(II)I"⟩
abbrev cX6_edge : ByteArray := prog_1_method_11_code
def yX6_edge : MethodName := ⟨RX6, "edge", "(I)I"⟩
abbrev cX6_level : ByteArray := prog_1_method_12_code
def yX6_level : MethodName := ⟨RX6, "level", "(II)I"⟩
abbrev cX6_take : ByteArray := prog_1_method_13_code
def yX6_take : MethodName := ⟨RX6, "take", "()I"⟩
abbrev cX6_done : ByteArray := prog_1_method_14_code
def yX6_done : MethodName := ⟨RX6, "done", "()I"⟩
abbrev cX6_tick : ByteArray := prog_1_method_15_code
def yX6_tick : MethodName := ⟨RX6, "tick", "(I)I"⟩
abbrev cX6_next : ByteArray := prog_1_method_16_code
def yX6_next : MethodName := ⟨RX6, "next", "()I"⟩
abbrev cX6_orderAt : ByteArray := prog_1_method_17_code
def yX6_orderAt : MethodName := ⟨RX6, "orderAt", "(I)I"⟩
abbrev cX6_serviceAt : ByteArray := prog_1_method_18_code
def yX6_serviceAt : MethodName := ⟨RX6, "serviceAt", "(I)I"⟩
abbrev cX6_waitingAt : ByteArray := prog_1_method_19_code
def yX6_waitingAt : MethodName := ⟨RX6, "waitingAt", "(I)I"⟩
abbrev cX6_lines : ByteArray := prog_1_method_20_code
def yX6_lines : MethodName := ⟨RX6, "lines", "(I)I"⟩
abbrev cX6_count : ByteArray := prog_1_method_21_code
def yX6_count : MethodName := ⟨RX6, "count", "(I)I"⟩
abbrev cX6_undo : ByteArray := prog_1_method_22_code
def yX6_undo : MethodName := ⟨RX6, "undo", "()I"⟩
abbrev cX6_type : ByteArray := prog_1_method_23_code
def yX6_type : MethodName := ⟨RX6, "type", "(I)I"⟩
abbrev cX6_clearText : ByteArray := prog_1_method_24_code
def yX6_clearText : MethodName := ⟨RX6, "clearText", "()I"⟩
abbrev cX6_fault : ByteArray := prog_1_method_25_code
def yX6_fault : MethodName := ⟨RX6, "fault", "(I)I"⟩
abbrev cX6_play : ByteArray := prog_1_method_26_code
def yX6_play : MethodName := ⟨RX6, "play", "()I"⟩
abbrev cX6_isBit : ByteArray := prog_1_method_27_code
def yX6_isBit : MethodName := ⟨RX6, "isBit", "(I)Z"⟩
abbrev cX6_asBit : ByteArray := prog_1_method_28_code
def yX6_asBit : MethodName := ⟨RX6, "asBit", "(Z)I"⟩
def RX7 : String := "LampRanksModel"
def TX7 : u_T := fun k => match k with
  | 0 => ("LampRanksModel", "s", "[I", true)
  | 1 => ("LampRanksModel", "before", "[I", true)
  | 2 => ("LampRanksModel", "aside", "[I", true)
  | 3 => ("LampRanksModel", "order", "[I", true)
  | 4 => ("LampRanksModel", "stack", "[I", true)
  | 5 => ("LampRanksModel", "place", "[I", true)
  | 6 => ("LampRanksModel", "text", "[I", true)
  | 7 => ("LampRanksModel", "length", "I", false)
  | 8 => ("LampRanksModel", "undoMany", "I", false)
  | 9 => ("LampRanksModel", "at", "I", false)
  | 10 => ("LampRanksModel", "first", "I", false)
  | 11 => ("LampRanksModel", "second", "I", false)
  | _ => ("LampRanksModel", "events", "I", false)
def tyX7 : Nat → FieldType := fun k => match k with
  | 0 => .array .int
  | 1 => .array .int
  | 2 => .array .int
  | 3 => .array .int
  | 4 => .array .int
  | 5 => .array .int
  | 6 => .array .int
  | 7 => .int
  | 8 => .int
  | 9 => .int
  | 10 => .int
  | 11 => .int
  | _ => .int
abbrev wsX70 : List Cond := u_ws RX7 TX7 13
theorem nmX7 : ∀ a, a < 13 → ∀ b, b < 13 → a ≠ b → (TX7 a).2.1 ≠ (TX7 b).2.1 := by decide +kernel
theorem tyX7_ok : ∀ k, k < 13 → parseFieldDescriptor (TX7 k).2.2.1 = some (tyX7 k) := by decide +kernel
abbrev cX7_init : ByteArray := prog_9_method_1_code
def yX7_init : MethodName := ⟨RX7, "<init>", "()V"⟩
abbrev cX7_in : ByteArray := prog_9_method_2_code
def yX7_in : MethodName := ⟨RX7, "in", "(III)Z"⟩
abbrev cX7_record : ByteArray := prog_9_method_3_code
def yX7_record : MethodName := ⟨RX7, "record", "()V"⟩
abbrev cX7_layAside : ByteArray := prog_9_method_4_code
def yX7_layAside : MethodName := ⟨RX7, "layAside", "()V"⟩
abbrev cX7_layBack : ByteArray := prog_9_method_5_code
def yX7_layBack : MethodName := ⟨RX7, "layBack", "()V"⟩
abbrev cX7_n : ByteArray := prog_9_method_6_code
def yX7_n : MethodName := ⟨RX7, "n", "(I)I"⟩
abbrev cX7_l : ByteArray := prog_9_method_7_code
def yX7_l : MethodName := ⟨RX7, "l", "(I)I"⟩
abbrev cX7_isNode : ByteArray := prog_9_method_8_code
def yX7_isNode : MethodName := ⟨RX7, "isNode", "(I)Z"⟩
abbrev cX7_isLine : ByteArray := prog_9_method_9_code
def yX7_isLine : MethodName := ⟨RX7, "isLine", "(I)Z"⟩
abbrev cX7_isBit : ByteArray := prog_9_method_10_code
def yX7_isBit : MethodName := ⟨RX7, "isBit", "(I)Z"⟩
abbrev cX7_hang : ByteArray := prog_9_method_11_code
def yX7_hang : MethodName := ⟨RX7, "hang", "(II)V"⟩
abbrev cX7_node : ByteArray := prog_9_method_12_code
def yX7_node : MethodName := ⟨RX7, "node", "(II)I"⟩
abbrev cX7_line : ByteArray := prog_9_method_13_code
def yX7_line : MethodName := ⟨RX7, "line", "(III)I"⟩
abbrev cX7_isOnWay : ByteArray := prog_9_method_14_code
def yX7_isOnWay : MethodName := ⟨RX7, "isOnWay", "(II)Z"⟩
abbrev cX7_linesBy : ByteArray := prog_9_method_15_code
def yX7_linesBy : MethodName := ⟨RX7, "linesBy", "(I)I"⟩
abbrev cX7_bits : ByteArray := prog_9_method_16_code
def yX7_bits : MethodName := ⟨RX7, "bits", "(I)I"⟩
abbrev cX7_mask : ByteArray := prog_9_method_17_code
def yX7_mask : MethodName := ⟨RX7, "mask", "(II)I"⟩
abbrev cX7_maskNode : ByteArray := prog_9_method_18_code
def yX7_maskNode : MethodName := ⟨RX7, "maskNode", "(II)I"⟩
abbrev cX7_threshold : ByteArray := prog_9_method_19_code
def yX7_threshold : MethodName := ⟨RX7, "threshold", "(I)I"⟩
abbrev cX7_late : ByteArray := prog_9_method_20_code
def yX7_late : MethodName := ⟨RX7, "late", "(I)I"⟩
abbrev cX7_isHidden : ByteArray := prog_9_method_21_code
def yX7_isHidden : MethodName := ⟨RX7, "isHidden", "(I)Z"⟩
abbrev cX7_isReady : ByteArray := prog_9_method_22_code
def yX7_isReady : MethodName := ⟨RX7, "isReady", "(I)Z"⟩
abbrev cX7_layOrder : ByteArray := prog_9_method_23_code
def yX7_layOrder : MethodName := ⟨RX7, "layOrder", "()V"⟩
abbrev cX7_nextLine : ByteArray := prog_9_method_24_code
def yX7_nextLine : MethodName := ⟨RX7, "nextLine", "()I"⟩
abbrev cX7_turnBehind : ByteArray := prog_9_method_25_code
def yX7_turnBehind : MethodName := ⟨RX7, "turnBehind", "(II)V"⟩
abbrev cX7_turnWay : ByteArray := prog_9_method_26_code
def yX7_turnWay : MethodName := ⟨RX7, "turnWay", "(I)V"⟩
abbrev cX7_goTake : ByteArray := prog_9_method_27_code
def yX7_goTake : MethodName := ⟨RX7, "goTake", "(I)V"⟩
abbrev cX7_goDone : ByteArray := prog_9_method_28_code
def yX7_goDone : MethodName := ⟨RX7, "goDone", "()I"⟩
abbrev cX7_litState : ByteArray := prog_9_method_29_code
def yX7_litState : MethodName := ⟨RX7, "litState", "(II)I"⟩
abbrev cX7_lineOf : ByteArray := prog_9_method_30_code
def yX7_lineOf : MethodName := ⟨RX7, "lineOf", "(II)I"⟩
abbrev cX7_nodeOf : ByteArray := prog_9_method_31_code
def yX7_nodeOf : MethodName := ⟨RX7, "nodeOf", "(II)I"⟩
abbrev cX7_inputAt : ByteArray := prog_9_method_32_code
def yX7_inputAt : MethodName := ⟨RX7, "inputAt", "(II)I"⟩
abbrev cX7_goEdge : ByteArray := prog_9_method_33_code
def yX7_goEdge : MethodName := ⟨RX7, "goEdge", "(I)I"⟩
abbrev cX7_edge : ByteArray := prog_9_method_34_code
def yX7_edge : MethodName := ⟨RX7, "edge", "(I)I"⟩
abbrev cX7_canLevel : ByteArray := prog_9_method_35_code
def yX7_canLevel : MethodName := ⟨RX7, "canLevel", "(II)Z"⟩
abbrev cX7_level : ByteArray := prog_9_method_36_code
def yX7_level : MethodName := ⟨RX7, "level", "(II)I"⟩
abbrev cX7_take : ByteArray := prog_9_method_37_code
def yX7_take : MethodName := ⟨RX7, "take", "()I"⟩
abbrev cX7_done : ByteArray := prog_9_method_38_code
def yX7_done : MethodName := ⟨RX7, "done", "()I"⟩
abbrev cX7_goTicks : ByteArray := prog_9_method_39_code
def yX7_goTicks : MethodName := ⟨RX7, "goTicks", "(I)I"⟩
abbrev cX7_tick : ByteArray := prog_9_method_40_code
def yX7_tick : MethodName := ⟨RX7, "tick", "(I)I"⟩
abbrev cX7_next : ByteArray := prog_9_method_41_code
def yX7_next : MethodName := ⟨RX7, "next", "()I"⟩
abbrev cX7_orderAt : ByteArray := prog_9_method_42_code
def yX7_orderAt : MethodName := ⟨RX7, "orderAt", "(I)I"⟩
abbrev cX7_serviceAt : ByteArray := prog_9_method_43_code
def yX7_serviceAt : MethodName := ⟨RX7, "serviceAt", "(I)I"⟩
abbrev cX7_isAhead : ByteArray := prog_9_method_44_code
def yX7_isAhead : MethodName := ⟨RX7, "isAhead", "(II)Z"⟩
abbrev cX7_waitingAt : ByteArray := prog_9_method_45_code
def yX7_waitingAt : MethodName := ⟨RX7, "waitingAt", "(I)I"⟩
abbrev cX7_isOf : ByteArray := prog_9_method_46_code
def yX7_isOf : MethodName := ⟨RX7, "isOf", "(II)Z"⟩
abbrev cX7_linesOf : ByteArray := prog_9_method_47_code
def yX7_linesOf : MethodName := ⟨RX7, "linesOf", "(I)I"⟩
abbrev cX7_lines : ByteArray := prog_9_method_48_code
def yX7_lines : MethodName := ⟨RX7, "lines", "(I)I"⟩
abbrev cX7_litEdges : ByteArray := prog_9_method_49_code
def yX7_litEdges : MethodName := ⟨RX7, "litEdges", "()I"⟩
abbrev cX7_count : ByteArray := prog_9_method_50_code
def yX7_count : MethodName := ⟨RX7, "count", "(I)I"⟩
abbrev cX7_undo : ByteArray := prog_9_method_51_code
def yX7_undo : MethodName := ⟨RX7, "undo", "()I"⟩
abbrev cX7_type : ByteArray := prog_9_method_52_code
def yX7_type : MethodName := ⟨RX7, "type", "(I)I"⟩
abbrev cX7_clearText : ByteArray := prog_9_method_53_code
def yX7_clearText : MethodName := ⟨RX7, "clearText", "()I"⟩
abbrev cX7_sees : ByteArray := prog_9_method_54_code
def yX7_sees : MethodName := ⟨RX7, "sees", "(I)Z"⟩
abbrev cX7_number : ByteArray := prog_9_method_55_code
def yX7_number : MethodName := ⟨RX7, "number", "()I"⟩
abbrev cX7_isForm : ByteArray := prog_9_method_56_code
def yX7_isForm : MethodName := ⟨RX7, "isForm", "(I)Z"⟩
abbrev cX7_isRange : ByteArray := prog_9_method_57_code
def yX7_isRange : MethodName := ⟨RX7, "isRange", "(I)Z"⟩
abbrev cX7_isPossible : ByteArray := prog_9_method_58_code
def yX7_isPossible : MethodName := ⟨RX7, "isPossible", "(I)Z"⟩
abbrev cX7_goEvent : ByteArray := prog_9_method_59_code
def yX7_goEvent : MethodName := ⟨RX7, "goEvent", "(I)V"⟩
abbrev cX7_isSign : ByteArray := prog_9_method_60_code
def yX7_isSign : MethodName := ⟨RX7, "isSign", "(I)Z"⟩
abbrev cX7_run : ByteArray := prog_9_method_61_code
def yX7_run : MethodName := ⟨RX7, "run", "()I"⟩
abbrev cX7_fault : ByteArray := prog_9_method_62_code
def yX7_fault : MethodName := ⟨RX7, "fault", "(I)I"⟩
abbrev cX7_play : ByteArray := prog_9_method_63_code
def yX7_play : MethodName := ⟨RX7, "play", "()I"⟩
def RJ6 : String := "java/lang/Integer"
def TJ6 : u_T := fun k => match k with
  | _ => ("", "", "", false)
def tyJ6 : Nat → FieldType := fun k => match k with
  | _ => .int
abbrev wsJ60 : List Cond := u_ws RJ6 TJ6 0
theorem nmJ6 : ∀ a, a < 0 → ∀ b, b < 0 → a ≠ b → (TJ6 a).2.1 ≠ (TJ6 b).2.1 := by decide +kernel
theorem tyJ6_ok : ∀ k, k < 0 → parseFieldDescriptor (TJ6 k).2.2.1 = some (tyJ6 k) := by decide +kernel
abbrev cJ6_bitCount_0f7a4 : ByteArray := prog_10_method_49_code
def yJ6_bitCount_0f7a4 : MethodName := ⟨RJ6, "bitCount", "(I)I"⟩
def RJ9 : String := "java/lang/Math"
def TJ9 : u_T := fun k => match k with
  | _ => ("", "", "", false)
def tyJ9 : Nat → FieldType := fun k => match k with
  | _ => .int
abbrev wsJ90 : List Cond := u_ws RJ9 TJ9 0
theorem nmJ9 : ∀ a, a < 0 → ∀ b, b < 0 → a ≠ b → (TJ9 a).2.1 ≠ (TJ9 b).2.1 := by decide +kernel
theorem tyJ9_ok : ∀ k, k < 0 → parseFieldDescriptor (TJ9 k).2.2.1 = some (tyJ9 k) := by decide +kernel
abbrev cJ9_max_7cf53 : ByteArray := prog_11_method_65_code
def yJ9_max_7cf53 : MethodName := ⟨RJ9, "max", "(II)I"⟩
def RJ10 : String := "java/lang/System"
def TJ10 : u_T := fun k => match k with
  | _ => ("", "", "", false)
def tyJ10 : Nat → FieldType := fun k => match k with
  | _ => .int
abbrev wsJ100 : List Cond := u_ws RJ10 TJ10 0
theorem nmJ10 : ∀ a, a < 0 → ∀ b, b < 0 → a ≠ b → (TJ10 a).2.1 ≠ (TJ10 b).2.1 := by decide +kernel
theorem tyJ10_ok : ∀ k, k < 0 → parseFieldDescriptor (TJ10 k).2.2.1 = some (tyJ10 k) := by decide +kernel
def RL : String := "LampRanksLaw"
abbrev cL_law : ByteArray := code
def yL_law : MethodName := ⟨RL, "law", "([I)Z"⟩
abbrev vwCl : List vw_C := [(RX0, TX0, 12), (RX1, TX1, 7), (RX2, TX2, 2), (RX3, TX3, 13), (RX4, TX4, 4), (RX5, TX5, 2), (RX6, TX6, 4), (RX7, TX7, 13)]
