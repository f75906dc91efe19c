-- ===== PART A: goes FIRST, ahead of the names: the tables' words, and 'selects' of the private methods out of them =====
/-- a private method of a class that the tables say can be made, by its rows of tables_1 -/
def lw_okq (q : MethodName × Nat) : Prop := (q.1.cls ≠ "java/lang/invoke/MethodHandle" ∧ q.1.cls ≠ "java/lang/invoke/VarHandle") ∧ Cond.instantiable q.1.cls q.2 ∈ tables_1 ∧ Cond.privateMethod q.1 ∈ tables_1 ∧ Cond.instanceMethod q.1 ∈ tables_1
theorem lw_p0 : lw_okq (⟨"LeafWorlds", "feedOne", "(I)V"⟩, 20) := ⟨⟨by decide +kernel, by decide +kernel⟩, List.mem_of_getElem? (i := 22) (by decide +kernel), List.mem_of_getElem? (i := 488) (by decide +kernel), List.mem_of_getElem? (i := 489) (by decide +kernel)⟩
theorem lw_p1 : lw_okq (⟨"LeafWorlds", "freeSlot", "()I"⟩, 20) := ⟨⟨by decide +kernel, by decide +kernel⟩, List.mem_of_getElem? (i := 22) (by decide +kernel), List.mem_of_getElem? (i := 500) (by decide +kernel), List.mem_of_getElem? (i := 501) (by decide +kernel)⟩
theorem lw_p2 : lw_okq (⟨"LeafWorlds", "emptyTape", "()I"⟩, 20) := ⟨⟨by decide +kernel, by decide +kernel⟩, List.mem_of_getElem? (i := 22) (by decide +kernel), List.mem_of_getElem? (i := 504) (by decide +kernel), List.mem_of_getElem? (i := 505) (by decide +kernel)⟩
theorem lw_p3 : lw_okq (⟨"LeafWorlds$Reader", "addToken", "([BII)V"⟩, 16) := ⟨⟨by decide +kernel, by decide +kernel⟩, List.mem_of_getElem? (i := 114) (by decide +kernel), List.mem_of_getElem? (i := 521) (by decide +kernel), List.mem_of_getElem? (i := 522) (by decide +kernel)⟩
theorem lw_p4 : lw_okq (⟨"LeafWorlds$Reader", "advance", "()V"⟩, 16) := ⟨⟨by decide +kernel, by decide +kernel⟩, List.mem_of_getElem? (i := 114) (by decide +kernel), List.mem_of_getElem? (i := 530) (by decide +kernel), List.mem_of_getElem? (i := 531) (by decide +kernel)⟩
theorem lw_p5 : lw_okq (⟨"LeafWorlds$Reader", "isWord", "(J)Z"⟩, 16) := ⟨⟨by decide +kernel, by decide +kernel⟩, List.mem_of_getElem? (i := 114) (by decide +kernel), List.mem_of_getElem? (i := 543) (by decide +kernel), List.mem_of_getElem? (i := 544) (by decide +kernel)⟩
theorem lw_p6 : lw_okq (⟨"LeafWorlds$Reader", "readPrime", "(LLeafWorlds$World;)Z"⟩, 16) := ⟨⟨by decide +kernel, by decide +kernel⟩, List.mem_of_getElem? (i := 114) (by decide +kernel), List.mem_of_getElem? (i := 547) (by decide +kernel), List.mem_of_getElem? (i := 548) (by decide +kernel)⟩
theorem lw_p7 : lw_okq (⟨"LeafWorlds$Reader", "fail", "(II)Z"⟩, 16) := ⟨⟨by decide +kernel, by decide +kernel⟩, List.mem_of_getElem? (i := 114) (by decide +kernel), List.mem_of_getElem? (i := 551) (by decide +kernel), List.mem_of_getElem? (i := 552) (by decide +kernel)⟩
theorem lw_p8 : lw_okq (⟨"LeafWorlds$Reader", "readAct", "(LLeafWorlds$World;)Z"⟩, 16) := ⟨⟨by decide +kernel, by decide +kernel⟩, List.mem_of_getElem? (i := 114) (by decide +kernel), List.mem_of_getElem? (i := 559) (by decide +kernel), List.mem_of_getElem? (i := 560) (by decide +kernel)⟩
theorem lw_p9 : lw_okq (⟨"LeafWorlds$Reader", "isName", "()Z"⟩, 16) := ⟨⟨by decide +kernel, by decide +kernel⟩, List.mem_of_getElem? (i := 114) (by decide +kernel), List.mem_of_getElem? (i := 563) (by decide +kernel), List.mem_of_getElem? (i := 564) (by decide +kernel)⟩
theorem lw_p10 : lw_okq (⟨"LeafWorlds$Reader", "readLaw", "(LLeafWorlds$World;)Z"⟩, 16) := ⟨⟨by decide +kernel, by decide +kernel⟩, List.mem_of_getElem? (i := 114) (by decide +kernel), List.mem_of_getElem? (i := 579) (by decide +kernel), List.mem_of_getElem? (i := 580) (by decide +kernel)⟩
theorem lw_p11 : lw_okq (⟨"LeafWorlds$Reader", "readTerms", "(LLeafWorlds$World;LLeafWorlds$Tally;II)Z"⟩, 16) := ⟨⟨by decide +kernel, by decide +kernel⟩, List.mem_of_getElem? (i := 114) (by decide +kernel), List.mem_of_getElem? (i := 583) (by decide +kernel), List.mem_of_getElem? (i := 584) (by decide +kernel)⟩
theorem lw_p12 : lw_okq (⟨"LeafWorlds$Reader", "readTree", "(LLeafWorlds$World;)Z"⟩, 16) := ⟨⟨by decide +kernel, by decide +kernel⟩, List.mem_of_getElem? (i := 114) (by decide +kernel), List.mem_of_getElem? (i := 587) (by decide +kernel), List.mem_of_getElem? (i := 588) (by decide +kernel)⟩
theorem lw_p13 : lw_okq (⟨"LeafWorlds$Reader", "readActName", "(LLeafWorlds$World;)I"⟩, 16) := ⟨⟨by decide +kernel, by decide +kernel⟩, List.mem_of_getElem? (i := 114) (by decide +kernel), List.mem_of_getElem? (i := 591) (by decide +kernel), List.mem_of_getElem? (i := 592) (by decide +kernel)⟩
theorem lw_p14 : lw_okq (⟨"LeafWorlds$Reader", "skip", "(I)Z"⟩, 16) := ⟨⟨by decide +kernel, by decide +kernel⟩, List.mem_of_getElem? (i := 114) (by decide +kernel), List.mem_of_getElem? (i := 595) (by decide +kernel), List.mem_of_getElem? (i := 596) (by decide +kernel)⟩
theorem lw_p15 : lw_okq (⟨"LeafWorlds$Reader", "closeActs", "(I)I"⟩, 16) := ⟨⟨by decide +kernel, by decide +kernel⟩, List.mem_of_getElem? (i := 114) (by decide +kernel), List.mem_of_getElem? (i := 599) (by decide +kernel), List.mem_of_getElem? (i := 600) (by decide +kernel)⟩
def lw_privs_1 : List (MethodName × Nat) := [(⟨"LeafWorlds", "feedOne", "(I)V"⟩, 20), (⟨"LeafWorlds", "freeSlot", "()I"⟩, 20), (⟨"LeafWorlds", "emptyTape", "()I"⟩, 20), (⟨"LeafWorlds$Reader", "addToken", "([BII)V"⟩, 16), (⟨"LeafWorlds$Reader", "advance", "()V"⟩, 16), (⟨"LeafWorlds$Reader", "isWord", "(J)Z"⟩, 16), (⟨"LeafWorlds$Reader", "readPrime", "(LLeafWorlds$World;)Z"⟩, 16), (⟨"LeafWorlds$Reader", "fail", "(II)Z"⟩, 16), (⟨"LeafWorlds$Reader", "readAct", "(LLeafWorlds$World;)Z"⟩, 16), (⟨"LeafWorlds$Reader", "isName", "()Z"⟩, 16), (⟨"LeafWorlds$Reader", "readLaw", "(LLeafWorlds$World;)Z"⟩, 16), (⟨"LeafWorlds$Reader", "readTerms", "(LLeafWorlds$World;LLeafWorlds$Tally;II)Z"⟩, 16), (⟨"LeafWorlds$Reader", "readTree", "(LLeafWorlds$World;)Z"⟩, 16), (⟨"LeafWorlds$Reader", "readActName", "(LLeafWorlds$World;)I"⟩, 16), (⟨"LeafWorlds$Reader", "skip", "(I)Z"⟩, 16), (⟨"LeafWorlds$Reader", "closeActs", "(I)I"⟩, 16)]
theorem lw_r1 : ∀ q ∈ lw_privs_1, lw_okq q := List.forall_mem_cons.mpr ⟨lw_p0, List.forall_mem_cons.mpr ⟨lw_p1, List.forall_mem_cons.mpr ⟨lw_p2, List.forall_mem_cons.mpr ⟨lw_p3, List.forall_mem_cons.mpr ⟨lw_p4, List.forall_mem_cons.mpr ⟨lw_p5, List.forall_mem_cons.mpr ⟨lw_p6, List.forall_mem_cons.mpr ⟨lw_p7, List.forall_mem_cons.mpr ⟨lw_p8, List.forall_mem_cons.mpr ⟨lw_p9, List.forall_mem_cons.mpr ⟨lw_p10, List.forall_mem_cons.mpr ⟨lw_p11, List.forall_mem_cons.mpr ⟨lw_p12, List.forall_mem_cons.mpr ⟨lw_p13, List.forall_mem_cons.mpr ⟨lw_p14, List.forall_mem_cons.mpr ⟨lw_p15, fun _ h => absurd h List.not_mem_nil⟩⟩⟩⟩⟩⟩⟩⟩⟩⟩⟩⟩⟩⟩⟩⟩
theorem lw_p16 : lw_okq (⟨"LeafWorlds$Tally", "placeOf", "(I)I"⟩, 4) := ⟨⟨by decide +kernel, by decide +kernel⟩, List.mem_of_getElem? (i := 50) (by decide +kernel), List.mem_of_getElem? (i := 617) (by decide +kernel), List.mem_of_getElem? (i := 618) (by decide +kernel)⟩
theorem lw_p17 : lw_okq (⟨"LeafWorlds$Tally", "makeRoom", "(I)V"⟩, 4) := ⟨⟨by decide +kernel, by decide +kernel⟩, List.mem_of_getElem? (i := 50) (by decide +kernel), List.mem_of_getElem? (i := 621) (by decide +kernel), List.mem_of_getElem? (i := 622) (by decide +kernel)⟩
theorem lw_p18 : lw_okq (⟨"LeafWorlds$Tally", "insert", "(III)V"⟩, 4) := ⟨⟨by decide +kernel, by decide +kernel⟩, List.mem_of_getElem? (i := 50) (by decide +kernel), List.mem_of_getElem? (i := 643) (by decide +kernel), List.mem_of_getElem? (i := 644) (by decide +kernel)⟩
theorem lw_p19 : lw_okq (⟨"LeafWorlds$Tally", "remove", "(I)V"⟩, 4) := ⟨⟨by decide +kernel, by decide +kernel⟩, List.mem_of_getElem? (i := 50) (by decide +kernel), List.mem_of_getElem? (i := 648) (by decide +kernel), List.mem_of_getElem? (i := 649) (by decide +kernel)⟩
theorem lw_p20 : lw_okq (⟨"LeafWorlds", "worldHere", "()LLeafWorlds$World;"⟩, 20) := ⟨⟨by decide +kernel, by decide +kernel⟩, List.mem_of_getElem? (i := 22) (by decide +kernel), List.mem_of_getElem? (i := 679) (by decide +kernel), List.mem_of_getElem? (i := 680) (by decide +kernel)⟩
theorem lw_p21 : lw_okq (⟨"LeafWorlds", "keepMade", "()I"⟩, 20) := ⟨⟨by decide +kernel, by decide +kernel⟩, List.mem_of_getElem? (i := 22) (by decide +kernel), List.mem_of_getElem? (i := 704) (by decide +kernel), List.mem_of_getElem? (i := 705) (by decide +kernel)⟩
theorem lw_p22 : lw_okq (⟨"LeafWorlds", "readSumHere", "()Z"⟩, 20) := ⟨⟨by decide +kernel, by decide +kernel⟩, List.mem_of_getElem? (i := 22) (by decide +kernel), List.mem_of_getElem? (i := 722) (by decide +kernel), List.mem_of_getElem? (i := 723) (by decide +kernel)⟩
theorem lw_p23 : lw_okq (⟨"LeafWorlds$Writer", "write", "(LLeafWorlds$World;II)V"⟩, 4) := ⟨⟨by decide +kernel, by decide +kernel⟩, List.mem_of_getElem? (i := 175) (by decide +kernel), List.mem_of_getElem? (i := 742) (by decide +kernel), List.mem_of_getElem? (i := 743) (by decide +kernel)⟩
theorem lw_p24 : lw_okq (⟨"LeafWorlds$Writer", "writeName", "(J)V"⟩, 4) := ⟨⟨by decide +kernel, by decide +kernel⟩, List.mem_of_getElem? (i := 175) (by decide +kernel), List.mem_of_getElem? (i := 750) (by decide +kernel), List.mem_of_getElem? (i := 751) (by decide +kernel)⟩
theorem lw_p25 : lw_okq (⟨"LeafWorlds$Writer", "writeByte", "(I)V"⟩, 4) := ⟨⟨by decide +kernel, by decide +kernel⟩, List.mem_of_getElem? (i := 175) (by decide +kernel), List.mem_of_getElem? (i := 755) (by decide +kernel), List.mem_of_getElem? (i := 756) (by decide +kernel)⟩
theorem lw_p26 : lw_okq (⟨"LeafWorlds$Writer", "writeClosings", "(I)I"⟩, 4) := ⟨⟨by decide +kernel, by decide +kernel⟩, List.mem_of_getElem? (i := 175) (by decide +kernel), List.mem_of_getElem? (i := 759) (by decide +kernel), List.mem_of_getElem? (i := 760) (by decide +kernel)⟩
theorem lw_p27 : lw_okq (⟨"LeafWorlds", "basisHere", "()LLeafWorlds$Basis;"⟩, 20) := ⟨⟨by decide +kernel, by decide +kernel⟩, List.mem_of_getElem? (i := 22) (by decide +kernel), List.mem_of_getElem? (i := 767) (by decide +kernel), List.mem_of_getElem? (i := 768) (by decide +kernel)⟩
theorem lw_p28 : lw_okq (⟨"LeafWorlds$Basis", "listTrees", "(I)V"⟩, 13) := ⟨⟨by decide +kernel, by decide +kernel⟩, List.mem_of_getElem? (i := 281) (by decide +kernel), List.mem_of_getElem? (i := 776) (by decide +kernel), List.mem_of_getElem? (i := 777) (by decide +kernel)⟩
theorem lw_p29 : lw_okq (⟨"LeafWorlds$Basis", "insertKey", "(II)V"⟩, 13) := ⟨⟨by decide +kernel, by decide +kernel⟩, List.mem_of_getElem? (i := 281) (by decide +kernel), List.mem_of_getElem? (i := 780) (by decide +kernel), List.mem_of_getElem? (i := 781) (by decide +kernel)⟩
theorem lw_p30 : lw_okq (⟨"LeafWorlds$Basis", "placeOf", "(II)I"⟩, 13) := ⟨⟨by decide +kernel, by decide +kernel⟩, List.mem_of_getElem? (i := 281) (by decide +kernel), List.mem_of_getElem? (i := 784) (by decide +kernel), List.mem_of_getElem? (i := 785) (by decide +kernel)⟩
theorem lw_p31 : lw_okq (⟨"LeafWorlds$Shaper", "placeOfLeaf", "(II)I"⟩, 4) := ⟨⟨by decide +kernel, by decide +kernel⟩, List.mem_of_getElem? (i := 92) (by decide +kernel), List.mem_of_getElem? (i := 806) (by decide +kernel), List.mem_of_getElem? (i := 807) (by decide +kernel)⟩
def lw_privs_2 : List (MethodName × Nat) := [(⟨"LeafWorlds$Tally", "placeOf", "(I)I"⟩, 4), (⟨"LeafWorlds$Tally", "makeRoom", "(I)V"⟩, 4), (⟨"LeafWorlds$Tally", "insert", "(III)V"⟩, 4), (⟨"LeafWorlds$Tally", "remove", "(I)V"⟩, 4), (⟨"LeafWorlds", "worldHere", "()LLeafWorlds$World;"⟩, 20), (⟨"LeafWorlds", "keepMade", "()I"⟩, 20), (⟨"LeafWorlds", "readSumHere", "()Z"⟩, 20), (⟨"LeafWorlds$Writer", "write", "(LLeafWorlds$World;II)V"⟩, 4), (⟨"LeafWorlds$Writer", "writeName", "(J)V"⟩, 4), (⟨"LeafWorlds$Writer", "writeByte", "(I)V"⟩, 4), (⟨"LeafWorlds$Writer", "writeClosings", "(I)I"⟩, 4), (⟨"LeafWorlds", "basisHere", "()LLeafWorlds$Basis;"⟩, 20), (⟨"LeafWorlds$Basis", "listTrees", "(I)V"⟩, 13), (⟨"LeafWorlds$Basis", "insertKey", "(II)V"⟩, 13), (⟨"LeafWorlds$Basis", "placeOf", "(II)I"⟩, 13), (⟨"LeafWorlds$Shaper", "placeOfLeaf", "(II)I"⟩, 4)]
theorem lw_r2 : ∀ q ∈ lw_privs_2, lw_okq q := List.forall_mem_cons.mpr ⟨lw_p16, List.forall_mem_cons.mpr ⟨lw_p17, List.forall_mem_cons.mpr ⟨lw_p18, List.forall_mem_cons.mpr ⟨lw_p19, List.forall_mem_cons.mpr ⟨lw_p20, List.forall_mem_cons.mpr ⟨lw_p21, List.forall_mem_cons.mpr ⟨lw_p22, List.forall_mem_cons.mpr ⟨lw_p23, List.forall_mem_cons.mpr ⟨lw_p24, List.forall_mem_cons.mpr ⟨lw_p25, List.forall_mem_cons.mpr ⟨lw_p26, List.forall_mem_cons.mpr ⟨lw_p27, List.forall_mem_cons.mpr ⟨lw_p28, List.forall_mem_cons.mpr ⟨lw_p29, List.forall_mem_cons.mpr ⟨lw_p30, List.forall_mem_cons.mpr ⟨lw_p31, fun _ h => absurd h List.not_mem_nil⟩⟩⟩⟩⟩⟩⟩⟩⟩⟩⟩⟩⟩⟩⟩⟩
theorem lw_p32 : lw_okq (⟨"LeafWorlds$Shaper", "splice", "(IIII)I"⟩, 4) := ⟨⟨by decide +kernel, by decide +kernel⟩, List.mem_of_getElem? (i := 92) (by decide +kernel), List.mem_of_getElem? (i := 810) (by decide +kernel), List.mem_of_getElem? (i := 811) (by decide +kernel)⟩
theorem lw_p33 : lw_okq (⟨"LeafWorlds$Basis", "makeRoom", "(I)V"⟩, 13) := ⟨⟨by decide +kernel, by decide +kernel⟩, List.mem_of_getElem? (i := 281) (by decide +kernel), List.mem_of_getElem? (i := 815) (by decide +kernel), List.mem_of_getElem? (i := 816) (by decide +kernel)⟩
theorem lw_p34 : lw_okq (⟨"LeafWorlds$Basis", "addRulesByEntries", "(I)V"⟩, 13) := ⟨⟨by decide +kernel, by decide +kernel⟩, List.mem_of_getElem? (i := 281) (by decide +kernel), List.mem_of_getElem? (i := 829) (by decide +kernel), List.mem_of_getElem? (i := 830) (by decide +kernel)⟩
theorem lw_p35 : lw_okq (⟨"LeafWorlds$Basis", "spreadByEntry", "(II)Z"⟩, 13) := ⟨⟨by decide +kernel, by decide +kernel⟩, List.mem_of_getElem? (i := 281) (by decide +kernel), List.mem_of_getElem? (i := 833) (by decide +kernel), List.mem_of_getElem? (i := 834) (by decide +kernel)⟩
theorem lw_p36 : lw_okq (⟨"LeafWorlds$Basis", "clearVector", "(I)V"⟩, 13) := ⟨⟨by decide +kernel, by decide +kernel⟩, List.mem_of_getElem? (i := 281) (by decide +kernel), List.mem_of_getElem? (i := 849) (by decide +kernel), List.mem_of_getElem? (i := 850) (by decide +kernel)⟩
theorem lw_p37 : lw_okq (⟨"LeafWorlds$Basis", "ruleOf", "(II)I"⟩, 13) := ⟨⟨by decide +kernel, by decide +kernel⟩, List.mem_of_getElem? (i := 281) (by decide +kernel), List.mem_of_getElem? (i := 853) (by decide +kernel), List.mem_of_getElem? (i := 854) (by decide +kernel)⟩
theorem lw_p38 : lw_okq (⟨"LeafWorlds$Basis", "addToVector", "(III)V"⟩, 13) := ⟨⟨by decide +kernel, by decide +kernel⟩, List.mem_of_getElem? (i := 281) (by decide +kernel), List.mem_of_getElem? (i := 861) (by decide +kernel), List.mem_of_getElem? (i := 862) (by decide +kernel)⟩
theorem lw_p39 : lw_okq (⟨"LeafWorlds$Basis", "reduceVector", "(I)V"⟩, 13) := ⟨⟨by decide +kernel, by decide +kernel⟩, List.mem_of_getElem? (i := 281) (by decide +kernel), List.mem_of_getElem? (i := 866) (by decide +kernel), List.mem_of_getElem? (i := 867) (by decide +kernel)⟩
theorem lw_p40 : lw_okq (⟨"LeafWorlds$Basis", "storeRule", "(III)V"⟩, 13) := ⟨⟨by decide +kernel, by decide +kernel⟩, List.mem_of_getElem? (i := 281) (by decide +kernel), List.mem_of_getElem? (i := 870) (by decide +kernel), List.mem_of_getElem? (i := 871) (by decide +kernel)⟩
theorem lw_p41 : lw_okq (⟨"LeafWorlds$Basis", "addLaws", "(I)V"⟩, 13) := ⟨⟨by decide +kernel, by decide +kernel⟩, List.mem_of_getElem? (i := 281) (by decide +kernel), List.mem_of_getElem? (i := 874) (by decide +kernel), List.mem_of_getElem? (i := 875) (by decide +kernel)⟩
theorem lw_p42 : lw_okq (⟨"LeafWorlds$Basis", "enterVector", "(I)V"⟩, 13) := ⟨⟨by decide +kernel, by decide +kernel⟩, List.mem_of_getElem? (i := 281) (by decide +kernel), List.mem_of_getElem? (i := 878) (by decide +kernel), List.mem_of_getElem? (i := 879) (by decide +kernel)⟩
theorem lw_p43 : lw_okq (⟨"LeafWorlds$Basis", "addPluggedLaws", "(I)V"⟩, 13) := ⟨⟨by decide +kernel, by decide +kernel⟩, List.mem_of_getElem? (i := 281) (by decide +kernel), List.mem_of_getElem? (i := 886) (by decide +kernel), List.mem_of_getElem? (i := 887) (by decide +kernel)⟩
theorem lw_p44 : lw_okq (⟨"LeafWorlds$Basis", "loadPlugged", "(IIIII)V"⟩, 13) := ⟨⟨by decide +kernel, by decide +kernel⟩, List.mem_of_getElem? (i := 281) (by decide +kernel), List.mem_of_getElem? (i := 890) (by decide +kernel), List.mem_of_getElem? (i := 891) (by decide +kernel)⟩
theorem lw_p45 : lw_okq (⟨"LeafWorlds$Basis", "settleRules", "(I)V"⟩, 13) := ⟨⟨by decide +kernel, by decide +kernel⟩, List.mem_of_getElem? (i := 281) (by decide +kernel), List.mem_of_getElem? (i := 894) (by decide +kernel), List.mem_of_getElem? (i := 895) (by decide +kernel)⟩
theorem lw_p46 : lw_okq (⟨"LeafWorlds$Basis", "loadRule", "(II)V"⟩, 13) := ⟨⟨by decide +kernel, by decide +kernel⟩, List.mem_of_getElem? (i := 281) (by decide +kernel), List.mem_of_getElem? (i := 898) (by decide +kernel), List.mem_of_getElem? (i := 899) (by decide +kernel)⟩
theorem lw_p47 : lw_okq (⟨"LeafWorlds$Basis", "isBare", "(II)Z"⟩, 13) := ⟨⟨by decide +kernel, by decide +kernel⟩, List.mem_of_getElem? (i := 281) (by decide +kernel), List.mem_of_getElem? (i := 929) (by decide +kernel), List.mem_of_getElem? (i := 930) (by decide +kernel)⟩
def lw_privs_3 : List (MethodName × Nat) := [(⟨"LeafWorlds$Shaper", "splice", "(IIII)I"⟩, 4), (⟨"LeafWorlds$Basis", "makeRoom", "(I)V"⟩, 13), (⟨"LeafWorlds$Basis", "addRulesByEntries", "(I)V"⟩, 13), (⟨"LeafWorlds$Basis", "spreadByEntry", "(II)Z"⟩, 13), (⟨"LeafWorlds$Basis", "clearVector", "(I)V"⟩, 13), (⟨"LeafWorlds$Basis", "ruleOf", "(II)I"⟩, 13), (⟨"LeafWorlds$Basis", "addToVector", "(III)V"⟩, 13), (⟨"LeafWorlds$Basis", "reduceVector", "(I)V"⟩, 13), (⟨"LeafWorlds$Basis", "storeRule", "(III)V"⟩, 13), (⟨"LeafWorlds$Basis", "addLaws", "(I)V"⟩, 13), (⟨"LeafWorlds$Basis", "enterVector", "(I)V"⟩, 13), (⟨"LeafWorlds$Basis", "addPluggedLaws", "(I)V"⟩, 13), (⟨"LeafWorlds$Basis", "loadPlugged", "(IIIII)V"⟩, 13), (⟨"LeafWorlds$Basis", "settleRules", "(I)V"⟩, 13), (⟨"LeafWorlds$Basis", "loadRule", "(II)V"⟩, 13), (⟨"LeafWorlds$Basis", "isBare", "(II)Z"⟩, 13)]
theorem lw_r3 : ∀ q ∈ lw_privs_3, lw_okq q := List.forall_mem_cons.mpr ⟨lw_p32, List.forall_mem_cons.mpr ⟨lw_p33, List.forall_mem_cons.mpr ⟨lw_p34, List.forall_mem_cons.mpr ⟨lw_p35, List.forall_mem_cons.mpr ⟨lw_p36, List.forall_mem_cons.mpr ⟨lw_p37, List.forall_mem_cons.mpr ⟨lw_p38, List.forall_mem_cons.mpr ⟨lw_p39, List.forall_mem_cons.mpr ⟨lw_p40, List.forall_mem_cons.mpr ⟨lw_p41, List.forall_mem_cons.mpr ⟨lw_p42, List.forall_mem_cons.mpr ⟨lw_p43, List.forall_mem_cons.mpr ⟨lw_p44, List.forall_mem_cons.mpr ⟨lw_p45, List.forall_mem_cons.mpr ⟨lw_p46, List.forall_mem_cons.mpr ⟨lw_p47, fun _ h => absurd h List.not_mem_nil⟩⟩⟩⟩⟩⟩⟩⟩⟩⟩⟩⟩⟩⟩⟩⟩
theorem lw_p48 : lw_okq (⟨"LeafWorlds$Basis", "standsAt", "(III)Z"⟩, 13) := ⟨⟨by decide +kernel, by decide +kernel⟩, List.mem_of_getElem? (i := 281) (by decide +kernel), List.mem_of_getElem? (i := 933) (by decide +kernel), List.mem_of_getElem? (i := 934) (by decide +kernel)⟩
theorem lw_p49 : lw_okq (⟨"LeafWorlds$Dualizer", "fillGrid", "(LLeafWorlds$Basis;I)V"⟩, 3) := ⟨⟨by decide +kernel, by decide +kernel⟩, List.mem_of_getElem? (i := 264) (by decide +kernel), List.mem_of_getElem? (i := 988) (by decide +kernel), List.mem_of_getElem? (i := 989) (by decide +kernel)⟩
theorem lw_p50 : lw_okq (⟨"LeafWorlds$Dualizer", "fillRow", "(LLeafWorlds$World;ILLeafWorlds$Basis;I)V"⟩, 3) := ⟨⟨by decide +kernel, by decide +kernel⟩, List.mem_of_getElem? (i := 264) (by decide +kernel), List.mem_of_getElem? (i := 992) (by decide +kernel), List.mem_of_getElem? (i := 993) (by decide +kernel)⟩
theorem lw_p51 : lw_okq (⟨"LeafWorlds$Dualizer", "clearColumns", "(III)V"⟩, 3) := ⟨⟨by decide +kernel, by decide +kernel⟩, List.mem_of_getElem? (i := 264) (by decide +kernel), List.mem_of_getElem? (i := 1002) (by decide +kernel), List.mem_of_getElem? (i := 1003) (by decide +kernel)⟩
theorem lw_p52 : lw_okq (⟨"LeafWorlds$Dualizer", "swapRows", "(II)V"⟩, 3) := ⟨⟨by decide +kernel, by decide +kernel⟩, List.mem_of_getElem? (i := 264) (by decide +kernel), List.mem_of_getElem? (i := 1006) (by decide +kernel), List.mem_of_getElem? (i := 1007) (by decide +kernel)⟩
theorem lw_p53 : lw_okq (⟨"LeafWorlds$Dualizer", "clearColumn", "(IIIII)V"⟩, 3) := ⟨⟨by decide +kernel, by decide +kernel⟩, List.mem_of_getElem? (i := 264) (by decide +kernel), List.mem_of_getElem? (i := 1010) (by decide +kernel), List.mem_of_getElem? (i := 1011) (by decide +kernel)⟩
theorem lw_p54 : lw_okq (⟨"LeafWorlds", "findDualSizes", "(LLeafWorlds$Basis;I)V"⟩, 20) := ⟨⟨by decide +kernel, by decide +kernel⟩, List.mem_of_getElem? (i := 22) (by decide +kernel), List.mem_of_getElem? (i := 1022) (by decide +kernel), List.mem_of_getElem? (i := 1023) (by decide +kernel)⟩
theorem lw_p55 : lw_okq (⟨"LeafWorlds", "basisKept", "(I)LLeafWorlds$Basis;"⟩, 20) := ⟨⟨by decide +kernel, by decide +kernel⟩, List.mem_of_getElem? (i := 22) (by decide +kernel), List.mem_of_getElem? (i := 1038) (by decide +kernel), List.mem_of_getElem? (i := 1039) (by decide +kernel)⟩
theorem lw_p56 : lw_okq (⟨"LeafWorlds$Reader", "areAllTold", "(LLeafWorlds$World;[LLeafWorlds$Tally;)Z"⟩, 16) := ⟨⟨by decide +kernel, by decide +kernel⟩, List.mem_of_getElem? (i := 114) (by decide +kernel), List.mem_of_getElem? (i := 1054) (by decide +kernel), List.mem_of_getElem? (i := 1055) (by decide +kernel)⟩
theorem lw_p57 : lw_okq (⟨"LeafWorlds$Mapper", "isKept", "(LLeafWorlds$World;ILLeafWorlds$Basis;LLeafWorlds$Shaper;)Z"⟩, 6) := ⟨⟨by decide +kernel, by decide +kernel⟩, List.mem_of_getElem? (i := 194) (by decide +kernel), List.mem_of_getElem? (i := 1062) (by decide +kernel), List.mem_of_getElem? (i := 1063) (by decide +kernel)⟩
theorem lw_p58 : lw_okq (⟨"LeafWorlds$Mapper", "bring", "(IILLeafWorlds$Basis;LLeafWorlds$Shaper;)V"⟩, 6) := ⟨⟨by decide +kernel, by decide +kernel⟩, List.mem_of_getElem? (i := 194) (by decide +kernel), List.mem_of_getElem? (i := 1067) (by decide +kernel), List.mem_of_getElem? (i := 1068) (by decide +kernel)⟩
theorem lw_p59 : lw_okq (⟨"LeafWorlds$Doer", "makeRoom", "(I)V"⟩, 6) := ⟨⟨by decide +kernel, by decide +kernel⟩, List.mem_of_getElem? (i := 223) (by decide +kernel), List.mem_of_getElem? (i := 1106) (by decide +kernel), List.mem_of_getElem? (i := 1107) (by decide +kernel)⟩
theorem lw_p60 : lw_okq (⟨"LeafWorlds$Doer", "fillBlock", "(LLeafWorlds$World;IILLeafWorlds$Tables;)V"⟩, 6) := ⟨⟨by decide +kernel, by decide +kernel⟩, List.mem_of_getElem? (i := 223) (by decide +kernel), List.mem_of_getElem? (i := 1111) (by decide +kernel), List.mem_of_getElem? (i := 1112) (by decide +kernel)⟩
theorem lw_p61 : lw_okq (⟨"LeafWorlds$Doer", "putTable", "(LLeafWorlds$World;ILLeafWorlds$Tables;II)V"⟩, 6) := ⟨⟨by decide +kernel, by decide +kernel⟩, List.mem_of_getElem? (i := 223) (by decide +kernel), List.mem_of_getElem? (i := 1117) (by decide +kernel), List.mem_of_getElem? (i := 1118) (by decide +kernel)⟩
theorem lw_p62 : lw_okq (⟨"LeafWorlds$Doer", "doTree", "(LLeafWorlds$World;IILLeafWorlds$Tables;[B)V"⟩, 6) := ⟨⟨by decide +kernel, by decide +kernel⟩, List.mem_of_getElem? (i := 223) (by decide +kernel), List.mem_of_getElem? (i := 1134) (by decide +kernel), List.mem_of_getElem? (i := 1135) (by decide +kernel)⟩
theorem lw_p63 : lw_okq (⟨"LeafWorlds$Doer", "doAct", "(LLeafWorlds$World;ILLeafWorlds$Tables;I)V"⟩, 6) := ⟨⟨by decide +kernel, by decide +kernel⟩, List.mem_of_getElem? (i := 223) (by decide +kernel), List.mem_of_getElem? (i := 1138) (by decide +kernel), List.mem_of_getElem? (i := 1139) (by decide +kernel)⟩
def lw_privs_4 : List (MethodName × Nat) := [(⟨"LeafWorlds$Basis", "standsAt", "(III)Z"⟩, 13), (⟨"LeafWorlds$Dualizer", "fillGrid", "(LLeafWorlds$Basis;I)V"⟩, 3), (⟨"LeafWorlds$Dualizer", "fillRow", "(LLeafWorlds$World;ILLeafWorlds$Basis;I)V"⟩, 3), (⟨"LeafWorlds$Dualizer", "clearColumns", "(III)V"⟩, 3), (⟨"LeafWorlds$Dualizer", "swapRows", "(II)V"⟩, 3), (⟨"LeafWorlds$Dualizer", "clearColumn", "(IIIII)V"⟩, 3), (⟨"LeafWorlds", "findDualSizes", "(LLeafWorlds$Basis;I)V"⟩, 20), (⟨"LeafWorlds", "basisKept", "(I)LLeafWorlds$Basis;"⟩, 20), (⟨"LeafWorlds$Reader", "areAllTold", "(LLeafWorlds$World;[LLeafWorlds$Tally;)Z"⟩, 16), (⟨"LeafWorlds$Mapper", "isKept", "(LLeafWorlds$World;ILLeafWorlds$Basis;LLeafWorlds$Shaper;)Z"⟩, 6), (⟨"LeafWorlds$Mapper", "bring", "(IILLeafWorlds$Basis;LLeafWorlds$Shaper;)V"⟩, 6), (⟨"LeafWorlds$Doer", "makeRoom", "(I)V"⟩, 6), (⟨"LeafWorlds$Doer", "fillBlock", "(LLeafWorlds$World;IILLeafWorlds$Tables;)V"⟩, 6), (⟨"LeafWorlds$Doer", "putTable", "(LLeafWorlds$World;ILLeafWorlds$Tables;II)V"⟩, 6), (⟨"LeafWorlds$Doer", "doTree", "(LLeafWorlds$World;IILLeafWorlds$Tables;[B)V"⟩, 6), (⟨"LeafWorlds$Doer", "doAct", "(LLeafWorlds$World;ILLeafWorlds$Tables;I)V"⟩, 6)]
theorem lw_r4 : ∀ q ∈ lw_privs_4, lw_okq q := List.forall_mem_cons.mpr ⟨lw_p48, List.forall_mem_cons.mpr ⟨lw_p49, List.forall_mem_cons.mpr ⟨lw_p50, List.forall_mem_cons.mpr ⟨lw_p51, List.forall_mem_cons.mpr ⟨lw_p52, List.forall_mem_cons.mpr ⟨lw_p53, List.forall_mem_cons.mpr ⟨lw_p54, List.forall_mem_cons.mpr ⟨lw_p55, List.forall_mem_cons.mpr ⟨lw_p56, List.forall_mem_cons.mpr ⟨lw_p57, List.forall_mem_cons.mpr ⟨lw_p58, List.forall_mem_cons.mpr ⟨lw_p59, List.forall_mem_cons.mpr ⟨lw_p60, List.forall_mem_cons.mpr ⟨lw_p61, List.forall_mem_cons.mpr ⟨lw_p62, List.forall_mem_cons.mpr ⟨lw_p63, fun _ h => absurd h List.not_mem_nil⟩⟩⟩⟩⟩⟩⟩⟩⟩⟩⟩⟩⟩⟩⟩⟩
theorem lw_p64 : lw_okq (⟨"java/lang/Throwable", "fillInStackTrace", "(I)Ljava/lang/Throwable;"⟩, 6) := ⟨⟨by decide +kernel, by decide +kernel⟩, List.mem_of_getElem? (i := 1211) (by decide +kernel), List.mem_of_getElem? (i := 1209) (by decide +kernel), List.mem_of_getElem? (i := 1210) (by decide +kernel)⟩
theorem lw_p65 : lw_okq (⟨"LeafWorldsModel", "four", "(I)V"⟩, 94) := ⟨⟨by decide +kernel, by decide +kernel⟩, List.mem_of_getElem? (i := 1258) (by decide +kernel), List.mem_of_getElem? (i := 1256) (by decide +kernel), List.mem_of_getElem? (i := 1257) (by decide +kernel)⟩
theorem lw_p66 : lw_okq (⟨"LeafWorldsModel", "plainWorld", "()V"⟩, 94) := ⟨⟨by decide +kernel, by decide +kernel⟩, List.mem_of_getElem? (i := 1258) (by decide +kernel), List.mem_of_getElem? (i := 1271) (by decide +kernel), List.mem_of_getElem? (i := 1272) (by decide +kernel)⟩
theorem lw_p67 : lw_okq (⟨"LeafWorldsModel", "plainSum", "()V"⟩, 94) := ⟨⟨by decide +kernel, by decide +kernel⟩, List.mem_of_getElem? (i := 1258) (by decide +kernel), List.mem_of_getElem? (i := 1275) (by decide +kernel), List.mem_of_getElem? (i := 1276) (by decide +kernel)⟩
theorem lw_p68 : lw_okq (⟨"LeafWorldsModel", "taken", "(I)V"⟩, 94) := ⟨⟨by decide +kernel, by decide +kernel⟩, List.mem_of_getElem? (i := 1258) (by decide +kernel), List.mem_of_getElem? (i := 1566) (by decide +kernel), List.mem_of_getElem? (i := 1567) (by decide +kernel)⟩
theorem lw_p69 : lw_okq (⟨"LeafWorldsModel", "otherWorld", "()V"⟩, 94) := ⟨⟨by decide +kernel, by decide +kernel⟩, List.mem_of_getElem? (i := 1258) (by decide +kernel), List.mem_of_getElem? (i := 1570) (by decide +kernel), List.mem_of_getElem? (i := 1571) (by decide +kernel)⟩
theorem lw_p70 : lw_okq (⟨"LeafWorldsModel", "next", "()V"⟩, 94) := ⟨⟨by decide +kernel, by decide +kernel⟩, List.mem_of_getElem? (i := 1258) (by decide +kernel), List.mem_of_getElem? (i := 1574) (by decide +kernel), List.mem_of_getElem? (i := 1575) (by decide +kernel)⟩
theorem lw_p71 : lw_okq (⟨"LeafWorldsModel", "peek", "()I"⟩, 94) := ⟨⟨by decide +kernel, by decide +kernel⟩, List.mem_of_getElem? (i := 1258) (by decide +kernel), List.mem_of_getElem? (i := 1578) (by decide +kernel), List.mem_of_getElem? (i := 1579) (by decide +kernel)⟩
theorem lw_p72 : lw_okq (⟨"LeafWorldsModel", "line", "()Z"⟩, 94) := ⟨⟨by decide +kernel, by decide +kernel⟩, List.mem_of_getElem? (i := 1258) (by decide +kernel), List.mem_of_getElem? (i := 1588) (by decide +kernel), List.mem_of_getElem? (i := 1589) (by decide +kernel)⟩
theorem lw_p73 : lw_okq (⟨"LeafWorldsModel", "isWord", "(J)Z"⟩, 94) := ⟨⟨by decide +kernel, by decide +kernel⟩, List.mem_of_getElem? (i := 1258) (by decide +kernel), List.mem_of_getElem? (i := 1593) (by decide +kernel), List.mem_of_getElem? (i := 1594) (by decide +kernel)⟩
theorem lw_p74 : lw_okq (⟨"LeafWorldsModel", "bad", "(I)Z"⟩, 94) := ⟨⟨by decide +kernel, by decide +kernel⟩, List.mem_of_getElem? (i := 1258) (by decide +kernel), List.mem_of_getElem? (i := 1597) (by decide +kernel), List.mem_of_getElem? (i := 1598) (by decide +kernel)⟩
theorem lw_p75 : lw_okq (⟨"LeafWorldsModel", "readAct", "()Z"⟩, 94) := ⟨⟨by decide +kernel, by decide +kernel⟩, List.mem_of_getElem? (i := 1258) (by decide +kernel), List.mem_of_getElem? (i := 1605) (by decide +kernel), List.mem_of_getElem? (i := 1606) (by decide +kernel)⟩
theorem lw_p76 : lw_okq (⟨"LeafWorldsModel", "isName", "()Z"⟩, 94) := ⟨⟨by decide +kernel, by decide +kernel⟩, List.mem_of_getElem? (i := 1258) (by decide +kernel), List.mem_of_getElem? (i := 1609) (by decide +kernel), List.mem_of_getElem? (i := 1610) (by decide +kernel)⟩
theorem lw_p77 : lw_okq (⟨"LeafWorldsModel", "readSum", "(ZI)Z"⟩, 94) := ⟨⟨by decide +kernel, by decide +kernel⟩, List.mem_of_getElem? (i := 1258) (by decide +kernel), List.mem_of_getElem? (i := 1618) (by decide +kernel), List.mem_of_getElem? (i := 1619) (by decide +kernel)⟩
theorem lw_p78 : lw_okq (⟨"LeafWorldsModel", "isSign", "(I)Z"⟩, 94) := ⟨⟨by decide +kernel, by decide +kernel⟩, List.mem_of_getElem? (i := 1258) (by decide +kernel), List.mem_of_getElem? (i := 1622) (by decide +kernel), List.mem_of_getElem? (i := 1623) (by decide +kernel)⟩
theorem lw_p79 : lw_okq (⟨"LeafWorldsModel", "noSum", "(I)V"⟩, 94) := ⟨⟨by decide +kernel, by decide +kernel⟩, List.mem_of_getElem? (i := 1258) (by decide +kernel), List.mem_of_getElem? (i := 1626) (by decide +kernel), List.mem_of_getElem? (i := 1627) (by decide +kernel)⟩
def lw_privs_5 : List (MethodName × Nat) := [(⟨"java/lang/Throwable", "fillInStackTrace", "(I)Ljava/lang/Throwable;"⟩, 6), (⟨"LeafWorldsModel", "four", "(I)V"⟩, 94), (⟨"LeafWorldsModel", "plainWorld", "()V"⟩, 94), (⟨"LeafWorldsModel", "plainSum", "()V"⟩, 94), (⟨"LeafWorldsModel", "taken", "(I)V"⟩, 94), (⟨"LeafWorldsModel", "otherWorld", "()V"⟩, 94), (⟨"LeafWorldsModel", "next", "()V"⟩, 94), (⟨"LeafWorldsModel", "peek", "()I"⟩, 94), (⟨"LeafWorldsModel", "line", "()Z"⟩, 94), (⟨"LeafWorldsModel", "isWord", "(J)Z"⟩, 94), (⟨"LeafWorldsModel", "bad", "(I)Z"⟩, 94), (⟨"LeafWorldsModel", "readAct", "()Z"⟩, 94), (⟨"LeafWorldsModel", "isName", "()Z"⟩, 94), (⟨"LeafWorldsModel", "readSum", "(ZI)Z"⟩, 94), (⟨"LeafWorldsModel", "isSign", "(I)Z"⟩, 94), (⟨"LeafWorldsModel", "noSum", "(I)V"⟩, 94)]
theorem lw_r5 : ∀ q ∈ lw_privs_5, lw_okq q := List.forall_mem_cons.mpr ⟨lw_p64, List.forall_mem_cons.mpr ⟨lw_p65, List.forall_mem_cons.mpr ⟨lw_p66, List.forall_mem_cons.mpr ⟨lw_p67, List.forall_mem_cons.mpr ⟨lw_p68, List.forall_mem_cons.mpr ⟨lw_p69, List.forall_mem_cons.mpr ⟨lw_p70, List.forall_mem_cons.mpr ⟨lw_p71, List.forall_mem_cons.mpr ⟨lw_p72, List.forall_mem_cons.mpr ⟨lw_p73, List.forall_mem_cons.mpr ⟨lw_p74, List.forall_mem_cons.mpr ⟨lw_p75, List.forall_mem_cons.mpr ⟨lw_p76, List.forall_mem_cons.mpr ⟨lw_p77, List.forall_mem_cons.mpr ⟨lw_p78, List.forall_mem_cons.mpr ⟨lw_p79, fun _ h => absurd h List.not_mem_nil⟩⟩⟩⟩⟩⟩⟩⟩⟩⟩⟩⟩⟩⟩⟩⟩
theorem lw_p80 : lw_okq (⟨"LeafWorldsModel", "readTree", "()Z"⟩, 94) := ⟨⟨by decide +kernel, by decide +kernel⟩, List.mem_of_getElem? (i := 1258) (by decide +kernel), List.mem_of_getElem? (i := 1630) (by decide +kernel), List.mem_of_getElem? (i := 1631) (by decide +kernel)⟩
theorem lw_p81 : lw_okq (⟨"LeafWorldsModel", "sign", "(I)Z"⟩, 94) := ⟨⟨by decide +kernel, by decide +kernel⟩, List.mem_of_getElem? (i := 1258) (by decide +kernel), List.mem_of_getElem? (i := 1634) (by decide +kernel), List.mem_of_getElem? (i := 1635) (by decide +kernel)⟩
theorem lw_p82 : lw_okq (⟨"LeafWorldsModel", "badAt", "(II)Z"⟩, 94) := ⟨⟨by decide +kernel, by decide +kernel⟩, List.mem_of_getElem? (i := 1258) (by decide +kernel), List.mem_of_getElem? (i := 1638) (by decide +kernel), List.mem_of_getElem? (i := 1639) (by decide +kernel)⟩
theorem lw_p83 : lw_okq (⟨"LeafWorldsModel", "addTerm", "(IIII)V"⟩, 94) := ⟨⟨by decide +kernel, by decide +kernel⟩, List.mem_of_getElem? (i := 1258) (by decide +kernel), List.mem_of_getElem? (i := 1642) (by decide +kernel), List.mem_of_getElem? (i := 1643) (by decide +kernel)⟩
theorem lw_p84 : lw_okq (⟨"LeafWorldsModel", "paths", "(II)V"⟩, 94) := ⟨⟨by decide +kernel, by decide +kernel⟩, List.mem_of_getElem? (i := 1258) (by decide +kernel), List.mem_of_getElem? (i := 1646) (by decide +kernel), List.mem_of_getElem? (i := 1647) (by decide +kernel)⟩
theorem lw_p85 : lw_okq (⟨"LeafWorldsModel", "tokens", "(I)V"⟩, 94) := ⟨⟨by decide +kernel, by decide +kernel⟩, List.mem_of_getElem? (i := 1258) (by decide +kernel), List.mem_of_getElem? (i := 1650) (by decide +kernel), List.mem_of_getElem? (i := 1651) (by decide +kernel)⟩
theorem lw_p86 : lw_okq (⟨"LeafWorldsModel", "isGreater", "(I)Z"⟩, 94) := ⟨⟨by decide +kernel, by decide +kernel⟩, List.mem_of_getElem? (i := 1258) (by decide +kernel), List.mem_of_getElem? (i := 1654) (by decide +kernel), List.mem_of_getElem? (i := 1655) (by decide +kernel)⟩
theorem lw_p87 : lw_okq (⟨"LeafWorldsModel", "noZeros", "()V"⟩, 94) := ⟨⟨by decide +kernel, by decide +kernel⟩, List.mem_of_getElem? (i := 1258) (by decide +kernel), List.mem_of_getElem? (i := 1658) (by decide +kernel), List.mem_of_getElem? (i := 1659) (by decide +kernel)⟩
theorem lw_p88 : lw_okq (⟨"LeafWorldsModel", "isAct", "(I)Z"⟩, 94) := ⟨⟨by decide +kernel, by decide +kernel⟩, List.mem_of_getElem? (i := 1258) (by decide +kernel), List.mem_of_getElem? (i := 1670) (by decide +kernel), List.mem_of_getElem? (i := 1671) (by decide +kernel)⟩
theorem lw_p89 : lw_okq (⟨"LeafWorldsModel", "isLaw", "(I)Z"⟩, 94) := ⟨⟨by decide +kernel, by decide +kernel⟩, List.mem_of_getElem? (i := 1258) (by decide +kernel), List.mem_of_getElem? (i := 1678) (by decide +kernel), List.mem_of_getElem? (i := 1679) (by decide +kernel)⟩
theorem lw_p90 : lw_okq (⟨"LeafWorldsModel", "ownWorld", "()V"⟩, 94) := ⟨⟨by decide +kernel, by decide +kernel⟩, List.mem_of_getElem? (i := 1258) (by decide +kernel), List.mem_of_getElem? (i := 1687) (by decide +kernel), List.mem_of_getElem? (i := 1688) (by decide +kernel)⟩
theorem lw_p91 : lw_okq (⟨"LeafWorldsModel", "totals", "(I)V"⟩, 94) := ⟨⟨by decide +kernel, by decide +kernel⟩, List.mem_of_getElem? (i := 1258) (by decide +kernel), List.mem_of_getElem? (i := 1691) (by decide +kernel), List.mem_of_getElem? (i := 1692) (by decide +kernel)⟩
theorem lw_p92 : lw_okq (⟨"LeafWorldsModel", "forests", "(III)J"⟩, 94) := ⟨⟨by decide +kernel, by decide +kernel⟩, List.mem_of_getElem? (i := 1258) (by decide +kernel), List.mem_of_getElem? (i := 1695) (by decide +kernel), List.mem_of_getElem? (i := 1696) (by decide +kernel)⟩
theorem lw_p93 : lw_okq (⟨"LeafWorldsModel", "addLaw", "(II)V"⟩, 94) := ⟨⟨by decide +kernel, by decide +kernel⟩, List.mem_of_getElem? (i := 1258) (by decide +kernel), List.mem_of_getElem? (i := 1707) (by decide +kernel), List.mem_of_getElem? (i := 1708) (by decide +kernel)⟩
theorem lw_p94 : lw_okq (⟨"LeafWorldsModel", "keepSum", "()I"⟩, 94) := ⟨⟨by decide +kernel, by decide +kernel⟩, List.mem_of_getElem? (i := 1258) (by decide +kernel), List.mem_of_getElem? (i := 1711) (by decide +kernel), List.mem_of_getElem? (i := 1712) (by decide +kernel)⟩
theorem lw_p95 : lw_okq (⟨"LeafWorldsModel", "hold", "()V"⟩, 94) := ⟨⟨by decide +kernel, by decide +kernel⟩, List.mem_of_getElem? (i := 1258) (by decide +kernel), List.mem_of_getElem? (i := 1715) (by decide +kernel), List.mem_of_getElem? (i := 1716) (by decide +kernel)⟩
def lw_privs_6 : List (MethodName × Nat) := [(⟨"LeafWorldsModel", "readTree", "()Z"⟩, 94), (⟨"LeafWorldsModel", "sign", "(I)Z"⟩, 94), (⟨"LeafWorldsModel", "badAt", "(II)Z"⟩, 94), (⟨"LeafWorldsModel", "addTerm", "(IIII)V"⟩, 94), (⟨"LeafWorldsModel", "paths", "(II)V"⟩, 94), (⟨"LeafWorldsModel", "tokens", "(I)V"⟩, 94), (⟨"LeafWorldsModel", "isGreater", "(I)Z"⟩, 94), (⟨"LeafWorldsModel", "noZeros", "()V"⟩, 94), (⟨"LeafWorldsModel", "isAct", "(I)Z"⟩, 94), (⟨"LeafWorldsModel", "isLaw", "(I)Z"⟩, 94), (⟨"LeafWorldsModel", "ownWorld", "()V"⟩, 94), (⟨"LeafWorldsModel", "totals", "(I)V"⟩, 94), (⟨"LeafWorldsModel", "forests", "(III)J"⟩, 94), (⟨"LeafWorldsModel", "addLaw", "(II)V"⟩, 94), (⟨"LeafWorldsModel", "keepSum", "()I"⟩, 94), (⟨"LeafWorldsModel", "hold", "()V"⟩, 94)]
theorem lw_r6 : ∀ q ∈ lw_privs_6, lw_okq q := List.forall_mem_cons.mpr ⟨lw_p80, List.forall_mem_cons.mpr ⟨lw_p81, List.forall_mem_cons.mpr ⟨lw_p82, List.forall_mem_cons.mpr ⟨lw_p83, List.forall_mem_cons.mpr ⟨lw_p84, List.forall_mem_cons.mpr ⟨lw_p85, List.forall_mem_cons.mpr ⟨lw_p86, List.forall_mem_cons.mpr ⟨lw_p87, List.forall_mem_cons.mpr ⟨lw_p88, List.forall_mem_cons.mpr ⟨lw_p89, List.forall_mem_cons.mpr ⟨lw_p90, List.forall_mem_cons.mpr ⟨lw_p91, List.forall_mem_cons.mpr ⟨lw_p92, List.forall_mem_cons.mpr ⟨lw_p93, List.forall_mem_cons.mpr ⟨lw_p94, List.forall_mem_cons.mpr ⟨lw_p95, fun _ h => absurd h List.not_mem_nil⟩⟩⟩⟩⟩⟩⟩⟩⟩⟩⟩⟩⟩⟩⟩⟩
theorem lw_p96 : lw_okq (⟨"LeafWorldsModel", "readOwn", "()Z"⟩, 94) := ⟨⟨by decide +kernel, by decide +kernel⟩, List.mem_of_getElem? (i := 1258) (by decide +kernel), List.mem_of_getElem? (i := 1723) (by decide +kernel), List.mem_of_getElem? (i := 1724) (by decide +kernel)⟩
theorem lw_p97 : lw_okq (⟨"LeafWorldsModel", "throwsIf", "(Z)Z"⟩, 94) := ⟨⟨by decide +kernel, by decide +kernel⟩, List.mem_of_getElem? (i := 1258) (by decide +kernel), List.mem_of_getElem? (i := 1735) (by decide +kernel), List.mem_of_getElem? (i := 1736) (by decide +kernel)⟩
theorem lw_p98 : lw_okq (⟨"LeafWorldsModel", "write", "(I)I"⟩, 94) := ⟨⟨by decide +kernel, by decide +kernel⟩, List.mem_of_getElem? (i := 1258) (by decide +kernel), List.mem_of_getElem? (i := 1743) (by decide +kernel), List.mem_of_getElem? (i := 1744) (by decide +kernel)⟩
theorem lw_p99 : lw_okq (⟨"LeafWorldsModel", "isBeyond", "(II)Z"⟩, 94) := ⟨⟨by decide +kernel, by decide +kernel⟩, List.mem_of_getElem? (i := 1258) (by decide +kernel), List.mem_of_getElem? (i := 1752) (by decide +kernel), List.mem_of_getElem? (i := 1753) (by decide +kernel)⟩
theorem lw_p100 : lw_okq (⟨"LeafWorldsModel", "settle", "(II)V"⟩, 94) := ⟨⟨by decide +kernel, by decide +kernel⟩, List.mem_of_getElem? (i := 1258) (by decide +kernel), List.mem_of_getElem? (i := 1757) (by decide +kernel), List.mem_of_getElem? (i := 1758) (by decide +kernel)⟩
theorem lw_p101 : lw_okq (⟨"LeafWorldsModel", "settleInverses", "(I)V"⟩, 94) := ⟨⟨by decide +kernel, by decide +kernel⟩, List.mem_of_getElem? (i := 1258) (by decide +kernel), List.mem_of_getElem? (i := 1761) (by decide +kernel), List.mem_of_getElem? (i := 1762) (by decide +kernel)⟩
theorem lw_p102 : lw_okq (⟨"LeafWorldsModel", "list", "(II)V"⟩, 94) := ⟨⟨by decide +kernel, by decide +kernel⟩, List.mem_of_getElem? (i := 1258) (by decide +kernel), List.mem_of_getElem? (i := 1765) (by decide +kernel), List.mem_of_getElem? (i := 1766) (by decide +kernel)⟩
theorem lw_p103 : lw_okq (⟨"LeafWorldsModel", "putTree", "(III)V"⟩, 94) := ⟨⟨by decide +kernel, by decide +kernel⟩, List.mem_of_getElem? (i := 1258) (by decide +kernel), List.mem_of_getElem? (i := 1769) (by decide +kernel), List.mem_of_getElem? (i := 1770) (by decide +kernel)⟩
theorem lw_p104 : lw_okq (⟨"LeafWorldsModel", "isAhead", "(II)Z"⟩, 94) := ⟨⟨by decide +kernel, by decide +kernel⟩, List.mem_of_getElem? (i := 1258) (by decide +kernel), List.mem_of_getElem? (i := 1773) (by decide +kernel), List.mem_of_getElem? (i := 1774) (by decide +kernel)⟩
theorem lw_p105 : lw_okq (⟨"LeafWorldsModel", "firstParts", "(III)Z"⟩, 94) := ⟨⟨by decide +kernel, by decide +kernel⟩, List.mem_of_getElem? (i := 1258) (by decide +kernel), List.mem_of_getElem? (i := 1777) (by decide +kernel), List.mem_of_getElem? (i := 1778) (by decide +kernel)⟩
theorem lw_p106 : lw_okq (⟨"LeafWorldsModel", "hasParts", "()Z"⟩, 94) := ⟨⟨by decide +kernel, by decide +kernel⟩, List.mem_of_getElem? (i := 1258) (by decide +kernel), List.mem_of_getElem? (i := 1781) (by decide +kernel), List.mem_of_getElem? (i := 1782) (by decide +kernel)⟩
theorem lw_p107 : lw_okq (⟨"LeafWorldsModel", "nextSizes", "()Z"⟩, 94) := ⟨⟨by decide +kernel, by decide +kernel⟩, List.mem_of_getElem? (i := 1258) (by decide +kernel), List.mem_of_getElem? (i := 1785) (by decide +kernel), List.mem_of_getElem? (i := 1786) (by decide +kernel)⟩
theorem lw_p108 : lw_okq (⟨"LeafWorldsModel", "partCode", "(I)I"⟩, 94) := ⟨⟨by decide +kernel, by decide +kernel⟩, List.mem_of_getElem? (i := 1258) (by decide +kernel), List.mem_of_getElem? (i := 1789) (by decide +kernel), List.mem_of_getElem? (i := 1790) (by decide +kernel)⟩
theorem lw_p109 : lw_okq (⟨"LeafWorldsModel", "nextParts", "()Z"⟩, 94) := ⟨⟨by decide +kernel, by decide +kernel⟩, List.mem_of_getElem? (i := 1258) (by decide +kernel), List.mem_of_getElem? (i := 1796) (by decide +kernel), List.mem_of_getElem? (i := 1797) (by decide +kernel)⟩
theorem lw_p110 : lw_okq (⟨"LeafWorldsModel", "acted", "(II)V"⟩, 94) := ⟨⟨by decide +kernel, by decide +kernel⟩, List.mem_of_getElem? (i := 1258) (by decide +kernel), List.mem_of_getElem? (i := 1801) (by decide +kernel), List.mem_of_getElem? (i := 1802) (by decide +kernel)⟩
theorem lw_p111 : lw_okq (⟨"LeafWorldsModel", "isFull", "(II)Z"⟩, 94) := ⟨⟨by decide +kernel, by decide +kernel⟩, List.mem_of_getElem? (i := 1258) (by decide +kernel), List.mem_of_getElem? (i := 1805) (by decide +kernel), List.mem_of_getElem? (i := 1806) (by decide +kernel)⟩
def lw_privs_7 : List (MethodName × Nat) := [(⟨"LeafWorldsModel", "readOwn", "()Z"⟩, 94), (⟨"LeafWorldsModel", "throwsIf", "(Z)Z"⟩, 94), (⟨"LeafWorldsModel", "write", "(I)I"⟩, 94), (⟨"LeafWorldsModel", "isBeyond", "(II)Z"⟩, 94), (⟨"LeafWorldsModel", "settle", "(II)V"⟩, 94), (⟨"LeafWorldsModel", "settleInverses", "(I)V"⟩, 94), (⟨"LeafWorldsModel", "list", "(II)V"⟩, 94), (⟨"LeafWorldsModel", "putTree", "(III)V"⟩, 94), (⟨"LeafWorldsModel", "isAhead", "(II)Z"⟩, 94), (⟨"LeafWorldsModel", "firstParts", "(III)Z"⟩, 94), (⟨"LeafWorldsModel", "hasParts", "()Z"⟩, 94), (⟨"LeafWorldsModel", "nextSizes", "()Z"⟩, 94), (⟨"LeafWorldsModel", "partCode", "(I)I"⟩, 94), (⟨"LeafWorldsModel", "nextParts", "()Z"⟩, 94), (⟨"LeafWorldsModel", "acted", "(II)V"⟩, 94), (⟨"LeafWorldsModel", "isFull", "(II)Z"⟩, 94)]
theorem lw_r7 : ∀ q ∈ lw_privs_7, lw_okq q := List.forall_mem_cons.mpr ⟨lw_p96, List.forall_mem_cons.mpr ⟨lw_p97, List.forall_mem_cons.mpr ⟨lw_p98, List.forall_mem_cons.mpr ⟨lw_p99, List.forall_mem_cons.mpr ⟨lw_p100, List.forall_mem_cons.mpr ⟨lw_p101, List.forall_mem_cons.mpr ⟨lw_p102, List.forall_mem_cons.mpr ⟨lw_p103, List.forall_mem_cons.mpr ⟨lw_p104, List.forall_mem_cons.mpr ⟨lw_p105, List.forall_mem_cons.mpr ⟨lw_p106, List.forall_mem_cons.mpr ⟨lw_p107, List.forall_mem_cons.mpr ⟨lw_p108, List.forall_mem_cons.mpr ⟨lw_p109, List.forall_mem_cons.mpr ⟨lw_p110, List.forall_mem_cons.mpr ⟨lw_p111, fun _ h => absurd h List.not_mem_nil⟩⟩⟩⟩⟩⟩⟩⟩⟩⟩⟩⟩⟩⟩⟩⟩
theorem lw_p112 : lw_okq (⟨"LeafWorldsModel", "rowAt", "(III)I"⟩, 94) := ⟨⟨by decide +kernel, by decide +kernel⟩, List.mem_of_getElem? (i := 1258) (by decide +kernel), List.mem_of_getElem? (i := 1809) (by decide +kernel), List.mem_of_getElem? (i := 1810) (by decide +kernel)⟩
theorem lw_p113 : lw_okq (⟨"LeafWorldsModel", "clearRow", "(I)V"⟩, 94) := ⟨⟨by decide +kernel, by decide +kernel⟩, List.mem_of_getElem? (i := 1258) (by decide +kernel), List.mem_of_getElem? (i := 1813) (by decide +kernel), List.mem_of_getElem? (i := 1814) (by decide +kernel)⟩
theorem lw_p114 : lw_okq (⟨"LeafWorldsModel", "place", "(III)I"⟩, 94) := ⟨⟨by decide +kernel, by decide +kernel⟩, List.mem_of_getElem? (i := 1258) (by decide +kernel), List.mem_of_getElem? (i := 1817) (by decide +kernel), List.mem_of_getElem? (i := 1818) (by decide +kernel)⟩
theorem lw_p115 : lw_okq (⟨"LeafWorldsModel", "insert", "(II)V"⟩, 94) := ⟨⟨by decide +kernel, by decide +kernel⟩, List.mem_of_getElem? (i := 1258) (by decide +kernel), List.mem_of_getElem? (i := 1821) (by decide +kernel), List.mem_of_getElem? (i := 1822) (by decide +kernel)⟩
theorem lw_p116 : lw_okq (⟨"LeafWorldsModel", "lessen", "(II)V"⟩, 94) := ⟨⟨by decide +kernel, by decide +kernel⟩, List.mem_of_getElem? (i := 1258) (by decide +kernel), List.mem_of_getElem? (i := 1825) (by decide +kernel), List.mem_of_getElem? (i := 1826) (by decide +kernel)⟩
theorem lw_p117 : lw_okq (⟨"LeafWorldsModel", "lawful", "(II)V"⟩, 94) := ⟨⟨by decide +kernel, by decide +kernel⟩, List.mem_of_getElem? (i := 1258) (by decide +kernel), List.mem_of_getElem? (i := 1829) (by decide +kernel), List.mem_of_getElem? (i := 1830) (by decide +kernel)⟩
theorem lw_p118 : lw_okq (⟨"LeafWorldsModel", "filled", "(I)I"⟩, 94) := ⟨⟨by decide +kernel, by decide +kernel⟩, List.mem_of_getElem? (i := 1258) (by decide +kernel), List.mem_of_getElem? (i := 1833) (by decide +kernel), List.mem_of_getElem? (i := 1834) (by decide +kernel)⟩
theorem lw_p119 : lw_okq (⟨"LeafWorldsModel", "rowSum", "(I)V"⟩, 94) := ⟨⟨by decide +kernel, by decide +kernel⟩, List.mem_of_getElem? (i := 1258) (by decide +kernel), List.mem_of_getElem? (i := 1837) (by decide +kernel), List.mem_of_getElem? (i := 1838) (by decide +kernel)⟩
theorem lw_p120 : lw_okq (⟨"LeafWorldsModel", "sizeOf", "(II)I"⟩, 94) := ⟨⟨by decide +kernel, by decide +kernel⟩, List.mem_of_getElem? (i := 1258) (by decide +kernel), List.mem_of_getElem? (i := 1845) (by decide +kernel), List.mem_of_getElem? (i := 1846) (by decide +kernel)⟩
theorem lw_p121 : lw_okq (⟨"LeafWorldsModel", "bareOf", "(I)I"⟩, 94) := ⟨⟨by decide +kernel, by decide +kernel⟩, List.mem_of_getElem? (i := 1258) (by decide +kernel), List.mem_of_getElem? (i := 1857) (by decide +kernel), List.mem_of_getElem? (i := 1858) (by decide +kernel)⟩
theorem lw_p122 : lw_okq (⟨"LeafWorldsModel", "hasPiece", "(I)Z"⟩, 94) := ⟨⟨by decide +kernel, by decide +kernel⟩, List.mem_of_getElem? (i := 1258) (by decide +kernel), List.mem_of_getElem? (i := 1861) (by decide +kernel), List.mem_of_getElem? (i := 1862) (by decide +kernel)⟩
theorem lw_p123 : lw_okq (⟨"LeafWorldsModel", "endOf", "(I)I"⟩, 94) := ⟨⟨by decide +kernel, by decide +kernel⟩, List.mem_of_getElem? (i := 1258) (by decide +kernel), List.mem_of_getElem? (i := 1865) (by decide +kernel), List.mem_of_getElem? (i := 1866) (by decide +kernel)⟩
theorem lw_p124 : lw_okq (⟨"LeafWorldsModel", "plugged", "(III)I"⟩, 94) := ⟨⟨by decide +kernel, by decide +kernel⟩, List.mem_of_getElem? (i := 1258) (by decide +kernel), List.mem_of_getElem? (i := 1877) (by decide +kernel), List.mem_of_getElem? (i := 1878) (by decide +kernel)⟩
theorem lw_p125 : lw_okq (⟨"LeafWorldsModel", "rest", "(I)I"⟩, 94) := ⟨⟨by decide +kernel, by decide +kernel⟩, List.mem_of_getElem? (i := 1258) (by decide +kernel), List.mem_of_getElem? (i := 1885) (by decide +kernel), List.mem_of_getElem? (i := 1886) (by decide +kernel)⟩
theorem lw_p126 : lw_okq (⟨"LeafWorldsModel", "addHere", "(I)V"⟩, 94) := ⟨⟨by decide +kernel, by decide +kernel⟩, List.mem_of_getElem? (i := 1258) (by decide +kernel), List.mem_of_getElem? (i := 1889) (by decide +kernel), List.mem_of_getElem? (i := 1890) (by decide +kernel)⟩
theorem lw_p127 : lw_okq (⟨"LeafWorldsModel", "hasDual", "()Z"⟩, 94) := ⟨⟨by decide +kernel, by decide +kernel⟩, List.mem_of_getElem? (i := 1258) (by decide +kernel), List.mem_of_getElem? (i := 1901) (by decide +kernel), List.mem_of_getElem? (i := 1902) (by decide +kernel)⟩
def lw_privs_8 : List (MethodName × Nat) := [(⟨"LeafWorldsModel", "rowAt", "(III)I"⟩, 94), (⟨"LeafWorldsModel", "clearRow", "(I)V"⟩, 94), (⟨"LeafWorldsModel", "place", "(III)I"⟩, 94), (⟨"LeafWorldsModel", "insert", "(II)V"⟩, 94), (⟨"LeafWorldsModel", "lessen", "(II)V"⟩, 94), (⟨"LeafWorldsModel", "lawful", "(II)V"⟩, 94), (⟨"LeafWorldsModel", "filled", "(I)I"⟩, 94), (⟨"LeafWorldsModel", "rowSum", "(I)V"⟩, 94), (⟨"LeafWorldsModel", "sizeOf", "(II)I"⟩, 94), (⟨"LeafWorldsModel", "bareOf", "(I)I"⟩, 94), (⟨"LeafWorldsModel", "hasPiece", "(I)Z"⟩, 94), (⟨"LeafWorldsModel", "endOf", "(I)I"⟩, 94), (⟨"LeafWorldsModel", "plugged", "(III)I"⟩, 94), (⟨"LeafWorldsModel", "rest", "(I)I"⟩, 94), (⟨"LeafWorldsModel", "addHere", "(I)V"⟩, 94), (⟨"LeafWorldsModel", "hasDual", "()Z"⟩, 94)]
theorem lw_r8 : ∀ q ∈ lw_privs_8, lw_okq q := List.forall_mem_cons.mpr ⟨lw_p112, List.forall_mem_cons.mpr ⟨lw_p113, List.forall_mem_cons.mpr ⟨lw_p114, List.forall_mem_cons.mpr ⟨lw_p115, List.forall_mem_cons.mpr ⟨lw_p116, List.forall_mem_cons.mpr ⟨lw_p117, List.forall_mem_cons.mpr ⟨lw_p118, List.forall_mem_cons.mpr ⟨lw_p119, List.forall_mem_cons.mpr ⟨lw_p120, List.forall_mem_cons.mpr ⟨lw_p121, List.forall_mem_cons.mpr ⟨lw_p122, List.forall_mem_cons.mpr ⟨lw_p123, List.forall_mem_cons.mpr ⟨lw_p124, List.forall_mem_cons.mpr ⟨lw_p125, List.forall_mem_cons.mpr ⟨lw_p126, List.forall_mem_cons.mpr ⟨lw_p127, fun _ h => absurd h List.not_mem_nil⟩⟩⟩⟩⟩⟩⟩⟩⟩⟩⟩⟩⟩⟩⟩⟩
theorem lw_p128 : lw_okq (⟨"LeafWorldsModel", "makeDual", "()V"⟩, 94) := ⟨⟨by decide +kernel, by decide +kernel⟩, List.mem_of_getElem? (i := 1258) (by decide +kernel), List.mem_of_getElem? (i := 1905) (by decide +kernel), List.mem_of_getElem? (i := 1906) (by decide +kernel)⟩
theorem lw_p129 : lw_okq (⟨"LeafWorldsModel", "equations", "(II)V"⟩, 94) := ⟨⟨by decide +kernel, by decide +kernel⟩, List.mem_of_getElem? (i := 1258) (by decide +kernel), List.mem_of_getElem? (i := 1909) (by decide +kernel), List.mem_of_getElem? (i := 1910) (by decide +kernel)⟩
theorem lw_p130 : lw_okq (⟨"LeafWorldsModel", "series", "(II)Z"⟩, 94) := ⟨⟨by decide +kernel, by decide +kernel⟩, List.mem_of_getElem? (i := 1258) (by decide +kernel), List.mem_of_getElem? (i := 1917) (by decide +kernel), List.mem_of_getElem? (i := 1918) (by decide +kernel)⟩
theorem lw_p131 : lw_okq (⟨"LeafWorldsModel", "back", "(I)V"⟩, 94) := ⟨⟨by decide +kernel, by decide +kernel⟩, List.mem_of_getElem? (i := 1258) (by decide +kernel), List.mem_of_getElem? (i := 1921) (by decide +kernel), List.mem_of_getElem? (i := 1922) (by decide +kernel)⟩
theorem lw_p132 : lw_okq (⟨"LeafWorldsModel", "powers", "(II)V"⟩, 94) := ⟨⟨by decide +kernel, by decide +kernel⟩, List.mem_of_getElem? (i := 1258) (by decide +kernel), List.mem_of_getElem? (i := 1925) (by decide +kernel), List.mem_of_getElem? (i := 1926) (by decide +kernel)⟩
theorem lw_p133 : lw_okq (⟨"LeafWorldsModel", "isKeptAt", "(I)Z"⟩, 94) := ⟨⟨by decide +kernel, by decide +kernel⟩, List.mem_of_getElem? (i := 1258) (by decide +kernel), List.mem_of_getElem? (i := 1937) (by decide +kernel), List.mem_of_getElem? (i := 1938) (by decide +kernel)⟩
theorem lw_p134 : lw_okq (⟨"LeafWorldsModel", "loads", "(I)V"⟩, 94) := ⟨⟨by decide +kernel, by decide +kernel⟩, List.mem_of_getElem? (i := 1258) (by decide +kernel), List.mem_of_getElem? (i := 1941) (by decide +kernel), List.mem_of_getElem? (i := 1942) (by decide +kernel)⟩
theorem lw_p135 : lw_okq (⟨"LeafWorldsModel", "readMap", "()Z"⟩, 94) := ⟨⟨by decide +kernel, by decide +kernel⟩, List.mem_of_getElem? (i := 1258) (by decide +kernel), List.mem_of_getElem? (i := 1949) (by decide +kernel), List.mem_of_getElem? (i := 1950) (by decide +kernel)⟩
theorem lw_p136 : lw_okq (⟨"LeafWorldsModel", "isGreatThere", "(I)Z"⟩, 94) := ⟨⟨by decide +kernel, by decide +kernel⟩, List.mem_of_getElem? (i := 1258) (by decide +kernel), List.mem_of_getElem? (i := 1953) (by decide +kernel), List.mem_of_getElem? (i := 1954) (by decide +kernel)⟩
theorem lw_p137 : lw_okq (⟨"LeafWorldsModel", "keeps", "(I)Z"⟩, 94) := ⟨⟨by decide +kernel, by decide +kernel⟩, List.mem_of_getElem? (i := 1258) (by decide +kernel), List.mem_of_getElem? (i := 1957) (by decide +kernel), List.mem_of_getElem? (i := 1958) (by decide +kernel)⟩
theorem lw_p138 : lw_okq (⟨"LeafWorldsModel", "actMapped", "(I)V"⟩, 94) := ⟨⟨by decide +kernel, by decide +kernel⟩, List.mem_of_getElem? (i := 1258) (by decide +kernel), List.mem_of_getElem? (i := 1961) (by decide +kernel), List.mem_of_getElem? (i := 1962) (by decide +kernel)⟩
theorem lw_p139 : lw_okq (⟨"LeafWorldsModel", "graft", "(I)V"⟩, 94) := ⟨⟨by decide +kernel, by decide +kernel⟩, List.mem_of_getElem? (i := 1258) (by decide +kernel), List.mem_of_getElem? (i := 1965) (by decide +kernel), List.mem_of_getElem? (i := 1966) (by decide +kernel)⟩
theorem lw_p140 : lw_okq (⟨"LeafWorldsModel", "table0", "(I)I"⟩, 94) := ⟨⟨by decide +kernel, by decide +kernel⟩, List.mem_of_getElem? (i := 1258) (by decide +kernel), List.mem_of_getElem? (i := 1981) (by decide +kernel), List.mem_of_getElem? (i := 1982) (by decide +kernel)⟩
theorem lw_p141 : lw_okq (⟨"LeafWorldsModel", "octet", "(I)I"⟩, 94) := ⟨⟨by decide +kernel, by decide +kernel⟩, List.mem_of_getElem? (i := 1258) (by decide +kernel), List.mem_of_getElem? (i := 1985) (by decide +kernel), List.mem_of_getElem? (i := 1986) (by decide +kernel)⟩
theorem lw_p142 : lw_okq (⟨"LeafWorldsModel", "doTree", "(II)V"⟩, 94) := ⟨⟨by decide +kernel, by decide +kernel⟩, List.mem_of_getElem? (i := 1258) (by decide +kernel), List.mem_of_getElem? (i := 1993) (by decide +kernel), List.mem_of_getElem? (i := 1994) (by decide +kernel)⟩
theorem lw_p143 : lw_okq (⟨"LeafWorldsModel", "draw", "(I)I"⟩, 94) := ⟨⟨by decide +kernel, by decide +kernel⟩, List.mem_of_getElem? (i := 1258) (by decide +kernel), List.mem_of_getElem? (i := 2005) (by decide +kernel), List.mem_of_getElem? (i := 2006) (by decide +kernel)⟩
def lw_privs_9 : List (MethodName × Nat) := [(⟨"LeafWorldsModel", "makeDual", "()V"⟩, 94), (⟨"LeafWorldsModel", "equations", "(II)V"⟩, 94), (⟨"LeafWorldsModel", "series", "(II)Z"⟩, 94), (⟨"LeafWorldsModel", "back", "(I)V"⟩, 94), (⟨"LeafWorldsModel", "powers", "(II)V"⟩, 94), (⟨"LeafWorldsModel", "isKeptAt", "(I)Z"⟩, 94), (⟨"LeafWorldsModel", "loads", "(I)V"⟩, 94), (⟨"LeafWorldsModel", "readMap", "()Z"⟩, 94), (⟨"LeafWorldsModel", "isGreatThere", "(I)Z"⟩, 94), (⟨"LeafWorldsModel", "keeps", "(I)Z"⟩, 94), (⟨"LeafWorldsModel", "actMapped", "(I)V"⟩, 94), (⟨"LeafWorldsModel", "graft", "(I)V"⟩, 94), (⟨"LeafWorldsModel", "table0", "(I)I"⟩, 94), (⟨"LeafWorldsModel", "octet", "(I)I"⟩, 94), (⟨"LeafWorldsModel", "doTree", "(II)V"⟩, 94), (⟨"LeafWorldsModel", "draw", "(I)I"⟩, 94)]
theorem lw_r9 : ∀ q ∈ lw_privs_9, lw_okq q := List.forall_mem_cons.mpr ⟨lw_p128, List.forall_mem_cons.mpr ⟨lw_p129, List.forall_mem_cons.mpr ⟨lw_p130, List.forall_mem_cons.mpr ⟨lw_p131, List.forall_mem_cons.mpr ⟨lw_p132, List.forall_mem_cons.mpr ⟨lw_p133, List.forall_mem_cons.mpr ⟨lw_p134, List.forall_mem_cons.mpr ⟨lw_p135, List.forall_mem_cons.mpr ⟨lw_p136, List.forall_mem_cons.mpr ⟨lw_p137, List.forall_mem_cons.mpr ⟨lw_p138, List.forall_mem_cons.mpr ⟨lw_p139, List.forall_mem_cons.mpr ⟨lw_p140, List.forall_mem_cons.mpr ⟨lw_p141, List.forall_mem_cons.mpr ⟨lw_p142, List.forall_mem_cons.mpr ⟨lw_p143, fun _ h => absurd h List.not_mem_nil⟩⟩⟩⟩⟩⟩⟩⟩⟩⟩⟩⟩⟩⟩⟩⟩
def lw_privs : List (MethodName × Nat) := lw_privs_1 ++ (lw_privs_2 ++ (lw_privs_3 ++ (lw_privs_4 ++ (lw_privs_5 ++ (lw_privs_6 ++ (lw_privs_7 ++ (lw_privs_8 ++ (lw_privs_9))))))))
def lw_tbl : List Cond := k2_sels lw_privs ++ tables_1
theorem lw_privs_ok : ∀ q ∈ lw_privs, lw_okq q := by
  show ∀ q ∈ lw_privs_1 ++ (lw_privs_2 ++ (lw_privs_3 ++ (lw_privs_4 ++ (lw_privs_5 ++ (lw_privs_6 ++ (lw_privs_7 ++ (lw_privs_8 ++ (lw_privs_9)))))))), lw_okq q
  exact List.forall_mem_append.mpr ⟨lw_r1, List.forall_mem_append.mpr ⟨lw_r2, List.forall_mem_append.mpr ⟨lw_r3, List.forall_mem_append.mpr ⟨lw_r4, List.forall_mem_append.mpr ⟨lw_r5, List.forall_mem_append.mpr ⟨lw_r6, List.forall_mem_append.mpr ⟨lw_r7, List.forall_mem_append.mpr ⟨lw_r8, lw_r9⟩⟩⟩⟩⟩⟩⟩⟩
def RX0 : String := "LeafWorlds$Basis"
def TX0 : u_T := fun k => match k with
  | 0 => ("LeafWorlds$Basis", "world", "LLeafWorlds$World;", true)
  | 1 => ("LeafWorlds$Basis", "shaper", "LLeafWorlds$Shaper;", true)
  | 2 => ("LeafWorlds$Basis", "built", "I", false)
  | 3 => ("LeafWorlds$Basis", "treeFrom", "[I", true)
  | 4 => ("LeafWorlds$Basis", "keys", "[I", true)
  | 5 => ("LeafWorlds$Basis", "marks", "[I", true)
  | 6 => ("LeafWorlds$Basis", "ruleFrom", "[I", true)
  | 7 => ("LeafWorlds$Basis", "rules", "[I", false)
  | 8 => ("LeafWorlds$Basis", "sizes", "[I", true)
  | 9 => ("LeafWorlds$Basis", "bareCounts", "[I", true)
  | 10 => ("LeafWorlds$Basis", "unclosed", "[Z", true)
  | 11 => ("LeafWorlds$Basis", "dualSizes", "[I", true)
  | _ => ("LeafWorlds$Basis", "dualKnown", "I", false)
def tyX0 : Nat → FieldType := fun k => match k with
  | 0 => .object "LeafWorlds$World"
  | 1 => .object "LeafWorlds$Shaper"
  | 2 => .int
  | 3 => .array .int
  | 4 => .array .int
  | 5 => .array .int
  | 6 => .array .int
  | 7 => .array .int
  | 8 => .array .int
  | 9 => .array .int
  | 10 => .array .boolean
  | 11 => .array .int
  | _ => .int
abbrev wsX00 : List Cond := u_ws RX0 TX0 13
theorem nmX0 : ∀ a, a < 13 → ∀ b, b < 13 → a ≠ b → (TX0 a).2.1 ≠ (TX0 b).2.1 := by decide +kernel
theorem tyX0_ok : ∀ k, k < 13 → parseFieldDescriptor (TX0 k).2.2.1 = some (tyX0 k) := by decide +kernel
abbrev cX0_init : ByteArray := prog_2_method_1_code
def yX0_init : MethodName := ⟨RX0, "<init>", "(LLeafWorlds$World;)V"⟩
abbrev cX0_forget : ByteArray := prog_2_method_2_code
def yX0_forget : MethodName := ⟨RX0, "forget", "()V"⟩
abbrev cX0_reach : ByteArray := prog_2_method_3_code
def yX0_reach : MethodName := ⟨RX0, "reach", "(I)Z"⟩
abbrev cX0_settleRules : ByteArray := prog_2_method_4_code
def yX0_settleRules : MethodName := ⟨RX0, "settleRules", "(I)V"⟩
abbrev cX0_treesOf : ByteArray := prog_2_method_5_code
def yX0_treesOf : MethodName := ⟨RX0, "treesOf", "(I)I"⟩
abbrev cX0_keyOf : ByteArray := prog_2_method_6_code
def yX0_keyOf : MethodName := ⟨RX0, "keyOf", "(II)I"⟩
abbrev cX0_isNormal : ByteArray := prog_2_method_7_code
def yX0_isNormal : MethodName := ⟨RX0, "isNormal", "(II)Z"⟩
abbrev cX0_normalTree : ByteArray := prog_2_method_8_code
def yX0_normalTree : MethodName := ⟨RX0, "normalTree", "(II)I"⟩
abbrev cX0_listTrees : ByteArray := prog_2_method_9_code
def yX0_listTrees : MethodName := ⟨RX0, "listTrees", "(I)V"⟩
abbrev cX0_insertKey : ByteArray := prog_2_method_10_code
def yX0_insertKey : MethodName := ⟨RX0, "insertKey", "(II)V"⟩
abbrev cX0_placeOf : ByteArray := prog_2_method_11_code
def yX0_placeOf : MethodName := ⟨RX0, "placeOf", "(II)I"⟩
abbrev cX0_makeRoom : ByteArray := prog_2_method_12_code
def yX0_makeRoom : MethodName := ⟨RX0, "makeRoom", "(I)V"⟩
abbrev cX0_ruleOf : ByteArray := prog_2_method_13_code
def yX0_ruleOf : MethodName := ⟨RX0, "ruleOf", "(II)I"⟩
abbrev cX0_clearVector : ByteArray := prog_2_method_14_code
def yX0_clearVector : MethodName := ⟨RX0, "clearVector", "(I)V"⟩
abbrev cX0_addToVector : ByteArray := prog_2_method_15_code
def yX0_addToVector : MethodName := ⟨RX0, "addToVector", "(III)V"⟩
abbrev cX0_reduceVector : ByteArray := prog_2_method_16_code
def yX0_reduceVector : MethodName := ⟨RX0, "reduceVector", "(I)V"⟩
abbrev cX0_loadRule : ByteArray := prog_2_method_17_code
def yX0_loadRule : MethodName := ⟨RX0, "loadRule", "(II)V"⟩
abbrev cX0_storeRule : ByteArray := prog_2_method_18_code
def yX0_storeRule : MethodName := ⟨RX0, "storeRule", "(III)V"⟩
abbrev cX0_addRulesByEntries : ByteArray := prog_2_method_19_code
def yX0_addRulesByEntries : MethodName := ⟨RX0, "addRulesByEntries", "(I)V"⟩
abbrev cX0_spreadByEntry : ByteArray := prog_2_method_20_code
def yX0_spreadByEntry : MethodName := ⟨RX0, "spreadByEntry", "(II)Z"⟩
abbrev cX0_addLaws : ByteArray := prog_2_method_21_code
def yX0_addLaws : MethodName := ⟨RX0, "addLaws", "(I)V"⟩
abbrev cX0_addPluggedLaws : ByteArray := prog_2_method_22_code
def yX0_addPluggedLaws : MethodName := ⟨RX0, "addPluggedLaws", "(I)V"⟩
abbrev cX0_loadPlugged : ByteArray := prog_2_method_23_code
def yX0_loadPlugged : MethodName := ⟨RX0, "loadPlugged", "(IIIII)V"⟩
abbrev cX0_enterVector : ByteArray := prog_2_method_24_code
def yX0_enterVector : MethodName := ⟨RX0, "enterVector", "(I)V"⟩
abbrev cX0_normalise : ByteArray := prog_2_method_25_code
def yX0_normalise : MethodName := ⟨RX0, "normalise", "(LLeafWorlds$Tally;)V"⟩
abbrev cX0_countBare : ByteArray := prog_2_method_26_code
def yX0_countBare : MethodName := ⟨RX0, "countBare", "(I)I"⟩
abbrev cX0_isBare : ByteArray := prog_2_method_27_code
def yX0_isBare : MethodName := ⟨RX0, "isBare", "(II)Z"⟩
abbrev cX0_standsAt : ByteArray := prog_2_method_28_code
def yX0_standsAt : MethodName := ⟨RX0, "standsAt", "(III)Z"⟩
def RX1 : String := "LeafWorlds$Doer"
def TX1 : u_T := fun k => match k with
  | 0 => ("LeafWorlds$Doer", "block", "[I", false)
  | 1 => ("LeafWorlds$Doer", "nextBlock", "[I", false)
  | 2 => ("LeafWorlds$Doer", "total", "[I", false)
  | 3 => ("LeafWorlds$Doer", "nodes", "[I", true)
  | 4 => ("LeafWorlds$Doer", "stack", "[I", true)
  | _ => ("LeafWorlds$Doer", "result", "[I", true)
def tyX1 : Nat → FieldType := fun k => match k with
  | 0 => .array .int
  | 1 => .array .int
  | 2 => .array .int
  | 3 => .array .int
  | 4 => .array .int
  | _ => .array .int
abbrev wsX10 : List Cond := u_ws RX1 TX1 6
theorem nmX1 : ∀ a, a < 6 → ∀ b, b < 6 → a ≠ b → (TX1 a).2.1 ≠ (TX1 b).2.1 := by decide +kernel
theorem tyX1_ok : ∀ k, k < 6 → parseFieldDescriptor (TX1 k).2.2.1 = some (tyX1 k) := by decide +kernel
abbrev cX1_init : ByteArray := prog_3_method_1_code
def yX1_init : MethodName := ⟨RX1, "<init>", "()V"⟩
abbrev cX1_isNothing : ByteArray := prog_3_method_2_code
def yX1_isNothing : MethodName := ⟨RX1, "isNothing", "(LLeafWorlds$World;ILLeafWorlds$Tables;)Z"⟩
abbrev cX1_makeRoom : ByteArray := prog_3_method_3_code
def yX1_makeRoom : MethodName := ⟨RX1, "makeRoom", "(I)V"⟩
abbrev cX1_fillBlock : ByteArray := prog_3_method_4_code
def yX1_fillBlock : MethodName := ⟨RX1, "fillBlock", "(LLeafWorlds$World;IILLeafWorlds$Tables;)V"⟩
abbrev cX1_putTable : ByteArray := prog_3_method_5_code
def yX1_putTable : MethodName := ⟨RX1, "putTable", "(LLeafWorlds$World;ILLeafWorlds$Tables;II)V"⟩
abbrev cX1_outcome : ByteArray := prog_3_method_6_code
def yX1_outcome : MethodName := ⟨RX1, "outcome", "(LLeafWorlds$World;LLeafWorlds$Tally;LLeafWorlds$Tables;[BI)I"⟩
abbrev cX1_doTree : ByteArray := prog_3_method_7_code
def yX1_doTree : MethodName := ⟨RX1, "doTree", "(LLeafWorlds$World;IILLeafWorlds$Tables;[B)V"⟩
abbrev cX1_doAct : ByteArray := prog_3_method_8_code
def yX1_doAct : MethodName := ⟨RX1, "doAct", "(LLeafWorlds$World;ILLeafWorlds$Tables;I)V"⟩
def RX2 : String := "LeafWorlds$Dualizer"
def TX2 : u_T := fun k => match k with
  | 0 => ("LeafWorlds$Dualizer", "grid", "[[I", true)
  | 1 => ("LeafWorlds$Dualizer", "pivotRow", "[I", true)
  | _ => ("LeafWorlds$Dualizer", "nodes", "[I", true)
def tyX2 : Nat → FieldType := fun k => match k with
  | 0 => .array (.array .int)
  | 1 => .array .int
  | _ => .array .int
abbrev wsX20 : List Cond := u_ws RX2 TX2 3
theorem nmX2 : ∀ a, a < 3 → ∀ b, b < 3 → a ≠ b → (TX2 a).2.1 ≠ (TX2 b).2.1 := by decide +kernel
theorem tyX2_ok : ∀ k, k < 3 → parseFieldDescriptor (TX2 k).2.2.1 = some (tyX2 k) := by decide +kernel
abbrev cX2_init : ByteArray := prog_4_method_1_code
def yX2_init : MethodName := ⟨RX2, "<init>", "()V"⟩
abbrev cX2_make : ByteArray := prog_4_method_2_code
def yX2_make : MethodName := ⟨RX2, "make", "(LLeafWorlds$Basis;LLeafWorlds$World;LLeafWorlds$Tally;)V"⟩
abbrev cX2_fillGrid : ByteArray := prog_4_method_3_code
def yX2_fillGrid : MethodName := ⟨RX2, "fillGrid", "(LLeafWorlds$Basis;I)V"⟩
abbrev cX2_fillRow : ByteArray := prog_4_method_4_code
def yX2_fillRow : MethodName := ⟨RX2, "fillRow", "(LLeafWorlds$World;ILLeafWorlds$Basis;I)V"⟩
abbrev cX2_numberOf : ByteArray := prog_4_method_5_code
def yX2_numberOf : MethodName := ⟨RX2, "numberOf", "(LLeafWorlds$World;II)I"⟩
abbrev cX2_clearColumns : ByteArray := prog_4_method_6_code
def yX2_clearColumns : MethodName := ⟨RX2, "clearColumns", "(III)V"⟩
abbrev cX2_swapRows : ByteArray := prog_4_method_7_code
def yX2_swapRows : MethodName := ⟨RX2, "swapRows", "(II)V"⟩
abbrev cX2_clearColumn : ByteArray := prog_4_method_8_code
def yX2_clearColumn : MethodName := ⟨RX2, "clearColumn", "(IIIII)V"⟩
def RX3 : String := "LeafWorlds$Mapper"
def TX3 : u_T := fun k => match k with
  | 0 => ("LeafWorlds$Mapper", "images", "[LLeafWorlds$Tally;", true)
  | 1 => ("LeafWorlds$Mapper", "firstBroken", "I", false)
  | 2 => ("LeafWorlds$Mapper", "step", "LLeafWorlds$Tally;", true)
  | 3 => ("LeafWorlds$Mapper", "next", "LLeafWorlds$Tally;", true)
  | 4 => ("LeafWorlds$Mapper", "total", "LLeafWorlds$Tally;", true)
  | _ => ("LeafWorlds$Mapper", "nodes", "[I", true)
def tyX3 : Nat → FieldType := fun k => match k with
  | 0 => .array (.object "LeafWorlds$Tally")
  | 1 => .int
  | 2 => .object "LeafWorlds$Tally"
  | 3 => .object "LeafWorlds$Tally"
  | 4 => .object "LeafWorlds$Tally"
  | _ => .array .int
abbrev wsX30 : List Cond := u_ws RX3 TX3 6
theorem nmX3 : ∀ a, a < 6 → ∀ b, b < 6 → a ≠ b → (TX3 a).2.1 ≠ (TX3 b).2.1 := by decide +kernel
theorem tyX3_ok : ∀ k, k < 6 → parseFieldDescriptor (TX3 k).2.2.1 = some (tyX3 k) := by decide +kernel
abbrev cX3_init : ByteArray := prog_5_method_1_code
def yX3_init : MethodName := ⟨RX3, "<init>", "()V"⟩
abbrev cX3_bringLaws : ByteArray := prog_5_method_2_code
def yX3_bringLaws : MethodName := ⟨RX3, "bringLaws", "(LLeafWorlds$World;LLeafWorlds$Basis;LLeafWorlds$Shaper;)I"⟩
abbrev cX3_isKept : ByteArray := prog_5_method_3_code
def yX3_isKept : MethodName := ⟨RX3, "isKept", "(LLeafWorlds$World;ILLeafWorlds$Basis;LLeafWorlds$Shaper;)Z"⟩
abbrev cX3_bring : ByteArray := prog_5_method_4_code
def yX3_bring : MethodName := ⟨RX3, "bring", "(IILLeafWorlds$Basis;LLeafWorlds$Shaper;)V"⟩
def RX4 : String := "LeafWorlds$Reader"
def TX4 : u_T := fun k => match k with
  | 0 => ("LeafWorlds$Reader", "kinds", "[I", true)
  | 1 => ("LeafWorlds$Reader", "starts", "[I", true)
  | 2 => ("LeafWorlds$Reader", "values", "[J", true)
  | 3 => ("LeafWorlds$Reader", "tokens", "I", false)
  | 4 => ("LeafWorlds$Reader", "at", "I", false)
  | 5 => ("LeafWorlds$Reader", "kind", "I", false)
  | 6 => ("LeafWorlds$Reader", "start", "I", false)
  | 7 => ("LeafWorlds$Reader", "value", "J", false)
  | 8 => ("LeafWorlds$Reader", "primeTold", "Z", false)
  | 9 => ("LeafWorlds$Reader", "missing", "[I", true)
  | 10 => ("LeafWorlds$Reader", "nodes", "[I", true)
  | 11 => ("LeafWorlds$Reader", "nodeCount", "I", false)
  | 12 => ("LeafWorlds$Reader", "treeLeaves", "I", false)
  | 13 => ("LeafWorlds$Reader", "told", "LLeafWorlds$Tally;", true)
  | 14 => ("LeafWorlds$Reader", "faultKind", "I", false)
  | _ => ("LeafWorlds$Reader", "faultPlace", "I", false)
def tyX4 : Nat → FieldType := fun k => match k with
  | 0 => .array .int
  | 1 => .array .int
  | 2 => .array .long
  | 3 => .int
  | 4 => .int
  | 5 => .int
  | 6 => .int
  | 7 => .long
  | 8 => .boolean
  | 9 => .array .int
  | 10 => .array .int
  | 11 => .int
  | 12 => .int
  | 13 => .object "LeafWorlds$Tally"
  | 14 => .int
  | _ => .int
abbrev wsX40 : List Cond := u_ws RX4 TX4 16
theorem nmX4 : ∀ a, a < 16 → ∀ b, b < 16 → a ≠ b → (TX4 a).2.1 ≠ (TX4 b).2.1 := by decide +kernel
theorem tyX4_ok : ∀ k, k < 16 → parseFieldDescriptor (TX4 k).2.2.1 = some (tyX4 k) := by decide +kernel
abbrev cX4_init : ByteArray := prog_6_method_1_code
def yX4_init : MethodName := ⟨RX4, "<init>", "()V"⟩
abbrev cX4_begin : ByteArray := prog_6_method_2_code
def yX4_begin : MethodName := ⟨RX4, "begin", "([BII)V"⟩
abbrev cX4_isSmall : ByteArray := prog_6_method_3_code
def yX4_isSmall : MethodName := ⟨RX4, "isSmall", "(B)Z"⟩
abbrev cX4_isDigit : ByteArray := prog_6_method_4_code
def yX4_isDigit : MethodName := ⟨RX4, "isDigit", "(B)Z"⟩
abbrev cX4_isSign : ByteArray := prog_6_method_5_code
def yX4_isSign : MethodName := ⟨RX4, "isSign", "(B)Z"⟩
abbrev cX4_addToken : ByteArray := prog_6_method_6_code
def yX4_addToken : MethodName := ⟨RX4, "addToken", "([BII)V"⟩
abbrev cX4_advance : ByteArray := prog_6_method_7_code
def yX4_advance : MethodName := ⟨RX4, "advance", "()V"⟩
abbrev cX4_fail : ByteArray := prog_6_method_8_code
def yX4_fail : MethodName := ⟨RX4, "fail", "(II)Z"⟩
abbrev cX4_isWord : ByteArray := prog_6_method_9_code
def yX4_isWord : MethodName := ⟨RX4, "isWord", "(J)Z"⟩
abbrev cX4_isName : ByteArray := prog_6_method_10_code
def yX4_isName : MethodName := ⟨RX4, "isName", "()Z"⟩
abbrev cX4_skip : ByteArray := prog_6_method_11_code
def yX4_skip : MethodName := ⟨RX4, "skip", "(I)Z"⟩
abbrev cX4_readWorld : ByteArray := prog_6_method_12_code
def yX4_readWorld : MethodName := ⟨RX4, "readWorld", "(LLeafWorlds$World;)I"⟩
abbrev cX4_readPrime : ByteArray := prog_6_method_13_code
def yX4_readPrime : MethodName := ⟨RX4, "readPrime", "(LLeafWorlds$World;)Z"⟩
abbrev cX4_isPrime : ByteArray := prog_6_method_14_code
def yX4_isPrime : MethodName := ⟨RX4, "isPrime", "(I)Z"⟩
abbrev cX4_readAct : ByteArray := prog_6_method_15_code
def yX4_readAct : MethodName := ⟨RX4, "readAct", "(LLeafWorlds$World;)Z"⟩
abbrev cX4_readLaw : ByteArray := prog_6_method_16_code
def yX4_readLaw : MethodName := ⟨RX4, "readLaw", "(LLeafWorlds$World;)Z"⟩
abbrev cX4_readSumAlone : ByteArray := prog_6_method_17_code
def yX4_readSumAlone : MethodName := ⟨RX4, "readSumAlone", "(LLeafWorlds$World;)Z"⟩
abbrev cX4_readTerms : ByteArray := prog_6_method_18_code
def yX4_readTerms : MethodName := ⟨RX4, "readTerms", "(LLeafWorlds$World;LLeafWorlds$Tally;II)Z"⟩
abbrev cX4_readTree : ByteArray := prog_6_method_19_code
def yX4_readTree : MethodName := ⟨RX4, "readTree", "(LLeafWorlds$World;)Z"⟩
abbrev cX4_readActName : ByteArray := prog_6_method_20_code
def yX4_readActName : MethodName := ⟨RX4, "readActName", "(LLeafWorlds$World;)I"⟩
abbrev cX4_closeActs : ByteArray := prog_6_method_21_code
def yX4_closeActs : MethodName := ⟨RX4, "closeActs", "(I)I"⟩
abbrev cX4_readMap : ByteArray := prog_6_method_22_code
def yX4_readMap : MethodName := ⟨RX4, "readMap", "(LLeafWorlds$World;LLeafWorlds$World;[LLeafWorlds$Tally;)Z"⟩
abbrev cX4_areAllTold : ByteArray := prog_6_method_23_code
def yX4_areAllTold : MethodName := ⟨RX4, "areAllTold", "(LLeafWorlds$World;[LLeafWorlds$Tally;)Z"⟩
def RX5 : String := "LeafWorlds$Series"
def TX5 : u_T := fun k => match k with
  | 0 => ("LeafWorlds$Series", "powers", "[[J", true)
  | _ => ("LeafWorlds$Series", "inverse", "[J", true)
def tyX5 : Nat → FieldType := fun k => match k with
  | 0 => .array (.array .long)
  | _ => .array .long
abbrev wsX50 : List Cond := u_ws RX5 TX5 2
theorem nmX5 : ∀ a, a < 2 → ∀ b, b < 2 → a ≠ b → (TX5 a).2.1 ≠ (TX5 b).2.1 := by decide +kernel
theorem tyX5_ok : ∀ k, k < 2 → parseFieldDescriptor (TX5 k).2.2.1 = some (tyX5 k) := by decide +kernel
abbrev cX5_init : ByteArray := prog_7_method_1_code
def yX5_init : MethodName := ⟨RX5, "<init>", "()V"⟩
abbrev cX5_raise : ByteArray := prog_7_method_2_code
def yX5_raise : MethodName := ⟨RX5, "raise", "([II)V"⟩
abbrev cX5_invert : ByteArray := prog_7_method_3_code
def yX5_invert : MethodName := ⟨RX5, "invert", "(I)V"⟩
abbrev cX5_over : ByteArray := prog_7_method_4_code
def yX5_over : MethodName := ⟨RX5, "over", "([II)J"⟩
def RX6 : String := "LeafWorlds$Shaper"
def TX6 : u_T := fun k => match k with
  | 0 => ("LeafWorlds$Shaper", "row", "[I", true)
  | 1 => ("LeafWorlds$Shaper", "part", "[I", true)
  | 2 => ("LeafWorlds$Shaper", "joined", "[I", true)
  | _ => ("LeafWorlds$Shaper", "vector", "[I", true)
def tyX6 : Nat → FieldType := fun k => match k with
  | 0 => .array .int
  | 1 => .array .int
  | 2 => .array .int
  | _ => .array .int
abbrev wsX60 : List Cond := u_ws RX6 TX6 4
theorem nmX6 : ∀ a, a < 4 → ∀ b, b < 4 → a ≠ b → (TX6 a).2.1 ≠ (TX6 b).2.1 := by decide +kernel
theorem tyX6_ok : ∀ k, k < 4 → parseFieldDescriptor (TX6 k).2.2.1 = some (tyX6 k) := by decide +kernel
abbrev cX6_init : ByteArray := prog_8_method_1_code
def yX6_init : MethodName := ⟨RX6, "<init>", "()V"⟩
abbrev cX6_keyOfAct : ByteArray := prog_8_method_2_code
def yX6_keyOfAct : MethodName := ⟨RX6, "keyOfAct", "(I)I"⟩
abbrev cX6_open : ByteArray := prog_8_method_3_code
def yX6_open : MethodName := ⟨RX6, "open", "(II[I)I"⟩
abbrev cX6_code : ByteArray := prog_8_method_4_code
def yX6_code : MethodName := ⟨RX6, "code", "([III)I"⟩
abbrev cX6_endOf : ByteArray := prog_8_method_5_code
def yX6_endOf : MethodName := ⟨RX6, "endOf", "([III[I)I"⟩
abbrev cX6_leavesIn : ByteArray := prog_8_method_6_code
def yX6_leavesIn : MethodName := ⟨RX6, "leavesIn", "([III)I"⟩
abbrev cX6_replaced : ByteArray := prog_8_method_7_code
def yX6_replaced : MethodName := ⟨RX6, "replaced", "(IIIII)I"⟩
abbrev cX6_grafted : ByteArray := prog_8_method_8_code
def yX6_grafted : MethodName := ⟨RX6, "grafted", "(IIIII)I"⟩
abbrev cX6_splice : ByteArray := prog_8_method_9_code
def yX6_splice : MethodName := ⟨RX6, "splice", "(IIII)I"⟩
abbrev cX6_placeOfLeaf : ByteArray := prog_8_method_10_code
def yX6_placeOfLeaf : MethodName := ⟨RX6, "placeOfLeaf", "(II)I"⟩
abbrev cX6_join : ByteArray := prog_8_method_11_code
def yX6_join : MethodName := ⟨RX6, "join", "(LLeafWorlds$Tally;ILLeafWorlds$Tally;LLeafWorlds$Tally;I)V"⟩
def RX7 : String := "LeafWorlds$Tables"
def TX7 : u_T := fun k => match k with
  | 0 => ("LeafWorlds$Tables", "ways", "I", false)
  | _ => ("LeafWorlds$Tables", "cells", "[I", true)
def tyX7 : Nat → FieldType := fun k => match k with
  | 0 => .int
  | _ => .array .int
abbrev wsX70 : List Cond := u_ws RX7 TX7 2
theorem nmX7 : ∀ a, a < 2 → ∀ b, b < 2 → a ≠ b → (TX7 a).2.1 ≠ (TX7 b).2.1 := by decide +kernel
theorem tyX7_ok : ∀ k, k < 2 → parseFieldDescriptor (TX7 k).2.2.1 = some (tyX7 k) := by decide +kernel
abbrev cX7_init : ByteArray := prog_9_method_1_code
def yX7_init : MethodName := ⟨RX7, "<init>", "()V"⟩
abbrev cX7_clear : ByteArray := prog_9_method_2_code
def yX7_clear : MethodName := ⟨RX7, "clear", "(I)V"⟩
abbrev cX7_copy : ByteArray := prog_9_method_3_code
def yX7_copy : MethodName := ⟨RX7, "copy", "(LLeafWorlds$Tables;)V"⟩
abbrev cX7_set : ByteArray := prog_9_method_4_code
def yX7_set : MethodName := ⟨RX7, "set", "(III)V"⟩
abbrev cX7_get : ByteArray := prog_9_method_5_code
def yX7_get : MethodName := ⟨RX7, "get", "(II)I"⟩
def RX8 : String := "LeafWorlds$Tally"
def TX8 : u_T := fun k => match k with
  | 0 => ("LeafWorlds$Tally", "leaves", "I", false)
  | 1 => ("LeafWorlds$Tally", "terms", "I", false)
  | 2 => ("LeafWorlds$Tally", "keys", "[I", false)
  | _ => ("LeafWorlds$Tally", "nums", "[I", false)
def tyX8 : Nat → FieldType := fun k => match k with
  | 0 => .int
  | 1 => .int
  | 2 => .array .int
  | _ => .array .int
abbrev wsX80 : List Cond := u_ws RX8 TX8 4
theorem nmX8 : ∀ a, a < 4 → ∀ b, b < 4 → a ≠ b → (TX8 a).2.1 ≠ (TX8 b).2.1 := by decide +kernel
theorem tyX8_ok : ∀ k, k < 4 → parseFieldDescriptor (TX8 k).2.2.1 = some (tyX8 k) := by decide +kernel
abbrev cX8_init : ByteArray := prog_10_method_1_code
def yX8_init : MethodName := ⟨RX8, "<init>", "()V"⟩
abbrev cX8_clear : ByteArray := prog_10_method_2_code
def yX8_clear : MethodName := ⟨RX8, "clear", "(I)V"⟩
abbrev cX8_copy : ByteArray := prog_10_method_3_code
def yX8_copy : MethodName := ⟨RX8, "copy", "(LLeafWorlds$Tally;)V"⟩
abbrev cX8_makeRoom : ByteArray := prog_10_method_4_code
def yX8_makeRoom : MethodName := ⟨RX8, "makeRoom", "(I)V"⟩
abbrev cX8_put : ByteArray := prog_10_method_5_code
def yX8_put : MethodName := ⟨RX8, "put", "(III)V"⟩
abbrev cX8_putAll : ByteArray := prog_10_method_6_code
def yX8_putAll : MethodName := ⟨RX8, "putAll", "(LLeafWorlds$Tally;II)V"⟩
abbrev cX8_placeOf : ByteArray := prog_10_method_7_code
def yX8_placeOf : MethodName := ⟨RX8, "placeOf", "(I)I"⟩
abbrev cX8_insert : ByteArray := prog_10_method_8_code
def yX8_insert : MethodName := ⟨RX8, "insert", "(III)V"⟩
abbrev cX8_remove : ByteArray := prog_10_method_9_code
def yX8_remove : MethodName := ⟨RX8, "remove", "(I)V"⟩
def RX9 : String := "LeafWorlds$World"
def TX9 : u_T := fun k => match k with
  | 0 => ("LeafWorlds$World", "prime", "I", false)
  | 1 => ("LeafWorlds$World", "actCount", "I", false)
  | 2 => ("LeafWorlds$World", "names", "[J", true)
  | 3 => ("LeafWorlds$World", "entries", "[I", true)
  | 4 => ("LeafWorlds$World", "lawCount", "I", false)
  | 5 => ("LeafWorlds$World", "lawLeaves", "[I", true)
  | 6 => ("LeafWorlds$World", "lawFrom", "[I", true)
  | 7 => ("LeafWorlds$World", "lawKeys", "[I", true)
  | 8 => ("LeafWorlds$World", "lawNums", "[I", true)
  | 9 => ("LeafWorlds$World", "treeCounts", "[J", true)
  | _ => ("LeafWorlds$World", "forests", "[[J", true)
def tyX9 : Nat → FieldType := fun k => match k with
  | 0 => .int
  | 1 => .int
  | 2 => .array .long
  | 3 => .array .int
  | 4 => .int
  | 5 => .array .int
  | 6 => .array .int
  | 7 => .array .int
  | 8 => .array .int
  | 9 => .array .long
  | _ => .array (.array .long)
abbrev wsX90 : List Cond := u_ws RX9 TX9 11
theorem nmX9 : ∀ a, a < 11 → ∀ b, b < 11 → a ≠ b → (TX9 a).2.1 ≠ (TX9 b).2.1 := by decide +kernel
theorem tyX9_ok : ∀ k, k < 11 → parseFieldDescriptor (TX9 k).2.2.1 = some (tyX9 k) := by decide +kernel
abbrev cX9_init : ByteArray := prog_11_method_1_code
def yX9_init : MethodName := ⟨RX9, "<init>", "()V"⟩
abbrev cX9_clear : ByteArray := prog_11_method_2_code
def yX9_clear : MethodName := ⟨RX9, "clear", "()V"⟩
abbrev cX9_hasAct : ByteArray := prog_11_method_3_code
def yX9_hasAct : MethodName := ⟨RX9, "hasAct", "(I)Z"⟩
abbrev cX9_hasLaw : ByteArray := prog_11_method_4_code
def yX9_hasLaw : MethodName := ⟨RX9, "hasLaw", "(I)Z"⟩
abbrev cX9_findAct : ByteArray := prog_11_method_5_code
def yX9_findAct : MethodName := ⟨RX9, "findAct", "(J)I"⟩
abbrev cX9_addAct : ByteArray := prog_11_method_6_code
def yX9_addAct : MethodName := ⟨RX9, "addAct", "(JI)V"⟩
abbrev cX9_addLaw : ByteArray := prog_11_method_7_code
def yX9_addLaw : MethodName := ⟨RX9, "addLaw", "(LLeafWorlds$Tally;)V"⟩
abbrev cX9_lawInto : ByteArray := prog_11_method_8_code
def yX9_lawInto : MethodName := ⟨RX9, "lawInto", "(LLeafWorlds$Tally;II)V"⟩
abbrev cX9_hasDual : ByteArray := prog_11_method_9_code
def yX9_hasDual : MethodName := ⟨RX9, "hasDual", "()Z"⟩
abbrev cX9_countTrees : ByteArray := prog_11_method_10_code
def yX9_countTrees : MethodName := ⟨RX9, "countTrees", "()V"⟩
def RX10 : String := "LeafWorlds$Writer"
def TX10 : u_T := fun k => match k with
  | 0 => ("LeafWorlds$Writer", "nodes", "[I", true)
  | 1 => ("LeafWorlds$Writer", "missing", "[I", true)
  | 2 => ("LeafWorlds$Writer", "text", "[I", true)
  | _ => ("LeafWorlds$Writer", "length", "I", false)
def tyX10 : Nat → FieldType := fun k => match k with
  | 0 => .array .int
  | 1 => .array .int
  | 2 => .array .int
  | _ => .int
abbrev wsX100 : List Cond := u_ws RX10 TX10 4
theorem nmX10 : ∀ a, a < 4 → ∀ b, b < 4 → a ≠ b → (TX10 a).2.1 ≠ (TX10 b).2.1 := by decide +kernel
theorem tyX10_ok : ∀ k, k < 4 → parseFieldDescriptor (TX10 k).2.2.1 = some (tyX10 k) := by decide +kernel
abbrev cX10_init : ByteArray := prog_12_method_1_code
def yX10_init : MethodName := ⟨RX10, "<init>", "()V"⟩
abbrev cX10_byteOf : ByteArray := prog_12_method_2_code
def yX10_byteOf : MethodName := ⟨RX10, "byteOf", "(LLeafWorlds$World;III)I"⟩
abbrev cX10_write : ByteArray := prog_12_method_3_code
def yX10_write : MethodName := ⟨RX10, "write", "(LLeafWorlds$World;II)V"⟩
abbrev cX10_writeClosings : ByteArray := prog_12_method_4_code
def yX10_writeClosings : MethodName := ⟨RX10, "writeClosings", "(I)I"⟩
abbrev cX10_writeName : ByteArray := prog_12_method_5_code
def yX10_writeName : MethodName := ⟨RX10, "writeName", "(J)V"⟩
abbrev cX10_writeByte : ByteArray := prog_12_method_6_code
def yX10_writeByte : MethodName := ⟨RX10, "writeByte", "(I)V"⟩
def RX11 : String := "LeafWorlds"
def TX11 : u_T := fun k => match k with
  | 0 => ("LeafWorlds", "tape", "[B", true)
  | 1 => ("LeafWorlds", "tapeLength", "I", false)
  | 2 => ("LeafWorlds", "slots", "[LLeafWorlds$Basis;", true)
  | 3 => ("LeafWorlds", "current", "I", false)
  | 4 => ("LeafWorlds", "keptSlots", "[I", true)
  | 5 => ("LeafWorlds", "tables", "LLeafWorlds$Tables;", true)
  | 6 => ("LeafWorlds", "keptTables", "[LLeafWorlds$Tables;", true)
  | 7 => ("LeafWorlds", "atHand", "LLeafWorlds$Tally;", true)
  | 8 => ("LeafWorlds", "keptTallies", "[LLeafWorlds$Tally;", true)
  | 9 => ("LeafWorlds", "past", "[LLeafWorlds$Tally;", true)
  | 10 => ("LeafWorlds", "pastCount", "I", false)
  | 11 => ("LeafWorlds", "pastNext", "I", false)
  | 12 => ("LeafWorlds", "made", "LLeafWorlds$Tally;", true)
  | 13 => ("LeafWorlds", "shaper", "LLeafWorlds$Shaper;", true)
  | 14 => ("LeafWorlds", "reader", "LLeafWorlds$Reader;", true)
  | 15 => ("LeafWorlds", "writer", "LLeafWorlds$Writer;", true)
  | 16 => ("LeafWorlds", "mapper", "LLeafWorlds$Mapper;", true)
  | 17 => ("LeafWorlds", "doer", "LLeafWorlds$Doer;", true)
  | 18 => ("LeafWorlds", "series", "LLeafWorlds$Series;", true)
  | _ => ("LeafWorlds", "dualizer", "LLeafWorlds$Dualizer;", true)
def tyX11 : Nat → FieldType := fun k => match k with
  | 0 => .array .byte
  | 1 => .int
  | 2 => .array (.object "LeafWorlds$Basis")
  | 3 => .int
  | 4 => .array .int
  | 5 => .object "LeafWorlds$Tables"
  | 6 => .array (.object "LeafWorlds$Tables")
  | 7 => .object "LeafWorlds$Tally"
  | 8 => .array (.object "LeafWorlds$Tally")
  | 9 => .array (.object "LeafWorlds$Tally")
  | 10 => .int
  | 11 => .int
  | 12 => .object "LeafWorlds$Tally"
  | 13 => .object "LeafWorlds$Shaper"
  | 14 => .object "LeafWorlds$Reader"
  | 15 => .object "LeafWorlds$Writer"
  | 16 => .object "LeafWorlds$Mapper"
  | 17 => .object "LeafWorlds$Doer"
  | 18 => .object "LeafWorlds$Series"
  | _ => .object "LeafWorlds$Dualizer"
abbrev wsX110 : List Cond := u_ws RX11 TX11 20
theorem nmX11 : ∀ a, a < 20 → ∀ b, b < 20 → a ≠ b → (TX11 a).2.1 ≠ (TX11 b).2.1 := by decide +kernel
theorem tyX11_ok : ∀ k, k < 20 → parseFieldDescriptor (TX11 k).2.2.1 = some (tyX11 k) := by decide +kernel
abbrev cX11_init : ByteArray := prog_1_method_1_code
def yX11_init : MethodName := ⟨RX11, "<init>", "()V"⟩
abbrev cX11_feed : ByteArray := prog_1_method_2_code
def yX11_feed : MethodName := ⟨RX11, "feed", "(IIIII)I"⟩
abbrev cX11_feedOne : ByteArray := prog_1_method_3_code
def yX11_feedOne : MethodName := ⟨RX11, "feedOne", "(I)V"⟩
abbrev cX11_end : ByteArray := prog_1_method_4_code
def yX11_end : MethodName := ⟨RX11, "end", "(I)Z"⟩
abbrev cX11_emptyTape : ByteArray := prog_1_method_5_code
def yX11_emptyTape : MethodName := ⟨RX11, "emptyTape", "()I"⟩
abbrev cX11_world : ByteArray := prog_1_method_6_code
def yX11_world : MethodName := ⟨RX11, "world", "()I"⟩
abbrev cX11_freeSlot : ByteArray := prog_1_method_7_code
def yX11_freeSlot : MethodName := ⟨RX11, "freeSlot", "()I"⟩
abbrev cX11_basisHere : ByteArray := prog_1_method_8_code
def yX11_basisHere : MethodName := ⟨RX11, "basisHere", "()LLeafWorlds$Basis;"⟩
abbrev cX11_worldHere : ByteArray := prog_1_method_9_code
def yX11_worldHere : MethodName := ⟨RX11, "worldHere", "()LLeafWorlds$World;"⟩
abbrev cX11_basisKept : ByteArray := prog_1_method_10_code
def yX11_basisKept : MethodName := ⟨RX11, "basisKept", "(I)LLeafWorlds$Basis;"⟩
abbrev cX11_fault : ByteArray := prog_1_method_11_code
def yX11_fault : MethodName := ⟨RX11, "fault", "()I"⟩
abbrev cX11_act : ByteArray := prog_1_method_12_code
def yX11_act : MethodName := ⟨RX11, "act", "(I)I"⟩
abbrev cX11_law : ByteArray := prog_1_method_13_code
def yX11_law : MethodName := ⟨RX11, "law", "(II)I"⟩
abbrev cX11_take : ByteArray := prog_1_method_14_code
def yX11_take : MethodName := ⟨RX11, "take", "(I)I"⟩
abbrev cX11_keepMade : ByteArray := prog_1_method_15_code
def yX11_keepMade : MethodName := ⟨RX11, "keepMade", "()I"⟩
abbrev cX11_trees : ByteArray := prog_1_method_16_code
def yX11_trees : MethodName := ⟨RX11, "trees", "(I)J"⟩
abbrev cX11_sum : ByteArray := prog_1_method_17_code
def yX11_sum : MethodName := ⟨RX11, "sum", "()I"⟩
abbrev cX11_readSumHere : ByteArray := prog_1_method_18_code
def yX11_readSumHere : MethodName := ⟨RX11, "readSumHere", "()Z"⟩
abbrev cX11_leaves : ByteArray := prog_1_method_19_code
def yX11_leaves : MethodName := ⟨RX11, "leaves", "()I"⟩
abbrev cX11_term : ByteArray := prog_1_method_20_code
def yX11_term : MethodName := ⟨RX11, "term", "(I)I"⟩
abbrev cX11_termAt : ByteArray := prog_1_method_21_code
def yX11_termAt : MethodName := ⟨RX11, "termAt", "(II)I"⟩
abbrev cX11_reduce : ByteArray := prog_1_method_22_code
def yX11_reduce : MethodName := ⟨RX11, "reduce", "()I"⟩
abbrev cX11_size : ByteArray := prog_1_method_23_code
def yX11_size : MethodName := ⟨RX11, "size", "(I)I"⟩
abbrev cX11_normalAt : ByteArray := prog_1_method_24_code
def yX11_normalAt : MethodName := ⟨RX11, "normalAt", "(III)I"⟩
abbrev cX11_bare : ByteArray := prog_1_method_25_code
def yX11_bare : MethodName := ⟨RX11, "bare", "(I)I"⟩
abbrev cX11_closed : ByteArray := prog_1_method_26_code
def yX11_closed : MethodName := ⟨RX11, "closed", "(I)I"⟩
abbrev cX11_plug : ByteArray := prog_1_method_27_code
def yX11_plug : MethodName := ⟨RX11, "plug", "(I)I"⟩
abbrev cX11_times : ByteArray := prog_1_method_28_code
def yX11_times : MethodName := ⟨RX11, "times", "(I)I"⟩
abbrev cX11_isFactor : ByteArray := prog_1_method_29_code
def yX11_isFactor : MethodName := ⟨RX11, "isFactor", "(I)Z"⟩
abbrev cX11_add : ByteArray := prog_1_method_30_code
def yX11_add : MethodName := ⟨RX11, "add", "(II)I"⟩
abbrev cX11_undo : ByteArray := prog_1_method_31_code
def yX11_undo : MethodName := ⟨RX11, "undo", "()I"⟩
abbrev cX11_dual : ByteArray := prog_1_method_32_code
def yX11_dual : MethodName := ⟨RX11, "dual", "()I"⟩
abbrev cX11_undone : ByteArray := prog_1_method_33_code
def yX11_undone : MethodName := ⟨RX11, "undone", "(I)J"⟩
abbrev cX11_koszul : ByteArray := prog_1_method_34_code
def yX11_koszul : MethodName := ⟨RX11, "koszul", "(I)I"⟩
abbrev cX11_findDualSizes : ByteArray := prog_1_method_35_code
def yX11_findDualSizes : MethodName := ⟨RX11, "findDualSizes", "(LLeafWorlds$Basis;I)V"⟩
abbrev cX11_layered : ByteArray := prog_1_method_36_code
def yX11_layered : MethodName := ⟨RX11, "layered", "(II)J"⟩
abbrev cX11_map : ByteArray := prog_1_method_37_code
def yX11_map : MethodName := ⟨RX11, "map", "(I)I"⟩
abbrev cX11_broken : ByteArray := prog_1_method_38_code
def yX11_broken : MethodName := ⟨RX11, "broken", "()I"⟩
abbrev cX11_space : ByteArray := prog_1_method_39_code
def yX11_space : MethodName := ⟨RX11, "space", "(I)Z"⟩
abbrev cX11_table : ByteArray := prog_1_method_40_code
def yX11_table : MethodName := ⟨RX11, "table", "(I)Z"⟩
abbrev cX11_holds : ByteArray := prog_1_method_41_code
def yX11_holds : MethodName := ⟨RX11, "holds", "(I)I"⟩
abbrev cX11_done : ByteArray := prog_1_method_42_code
def yX11_done : MethodName := ⟨RX11, "done", "(I)I"⟩
abbrev cX11_drawn : ByteArray := prog_1_method_43_code
def yX11_drawn : MethodName := ⟨RX11, "drawn", "(II)I"⟩
abbrev cX11_image : ByteArray := prog_1_method_44_code
def yX11_image : MethodName := ⟨RX11, "image", "(I)Z"⟩
abbrev cX11_restore : ByteArray := prog_1_method_45_code
def yX11_restore : MethodName := ⟨RX11, "restore", "(I)Z"⟩
abbrev cX11_count : ByteArray := prog_1_method_46_code
def yX11_count : MethodName := ⟨RX11, "count", "(I)I"⟩
abbrev cX11_rest : ByteArray := prog_1_method_47_code
def yX11_rest : MethodName := ⟨RX11, "rest", "(II)I"⟩
abbrev cX11_inverseOf : ByteArray := prog_1_method_48_code
def yX11_inverseOf : MethodName := ⟨RX11, "inverseOf", "(II)I"⟩
abbrev cX11_power : ByteArray := prog_1_method_49_code
def yX11_power : MethodName := ⟨RX11, "power", "(II)I"⟩
def RX12 : String := "LeafWorldsModel"
def TX12 : u_T := fun k => match k with
  | 0 => ("LeafWorldsModel", "thrown", "I", false)
  | 1 => ("LeafWorldsModel", "tape", "[B", true)
  | 2 => ("LeafWorldsModel", "length", "I", false)
  | 3 => ("LeafWorldsModel", "size", "I", false)
  | 4 => ("LeafWorldsModel", "p", "I", false)
  | 5 => ("LeafWorldsModel", "limit", "I", false)
  | 6 => ("LeafWorldsModel", "s", "[I", true)
  | 7 => ("LeafWorldsModel", "h", "[I", true)
  | 8 => ("LeafWorldsModel", "names", "[J", true)
  | 9 => ("LeafWorldsModel", "token", "I", false)
  | 10 => ("LeafWorldsModel", "at", "I", false)
  | 11 => ("LeafWorldsModel", "span", "I", false)
  | 12 => ("LeafWorldsModel", "number", "I", false)
  | 13 => ("LeafWorldsModel", "fault", "I", false)
  | 14 => ("LeafWorldsModel", "faultAt", "I", false)
  | 15 => ("LeafWorldsModel", "word", "J", false)
  | 16 => ("LeafWorldsModel", "tok", "[I", true)
  | 17 => ("LeafWorldsModel", "path", "[I", true)
  | 18 => ("LeafWorldsModel", "stackPath", "[I", true)
  | 19 => ("LeafWorldsModel", "stackLeft", "[I", true)
  | 20 => ("LeafWorldsModel", "tokMany", "I", false)
  | 21 => ("LeafWorldsModel", "pathMany", "I", false)
  | 22 => ("LeafWorldsModel", "w", "[I", true)
  | 23 => ("LeafWorldsModel", "level", "[I", true)
  | 24 => ("LeafWorldsModel", "many", "[I", true)
  | 25 => ("LeafWorldsModel", "from", "[I", true)
  | 26 => ("LeafWorldsModel", "rank", "[I", true)
  | 27 => ("LeafWorldsModel", "rowsFrom", "[I", true)
  | 28 => ("LeafWorldsModel", "code", "[I", true)
  | 29 => ("LeafWorldsModel", "leafPath", "[I", true)
  | 30 => ("LeafWorldsModel", "sorted", "[I", true)
  | 31 => ("LeafWorldsModel", "basis", "[I", true)
  | 32 => ("LeafWorldsModel", "pivot", "[Z", true)
  | 33 => ("LeafWorldsModel", "own", "I", false)
  | 34 => ("LeafWorldsModel", "total", "[J", true)
  | 35 => ("LeafWorldsModel", "ways", "[J", true)
  | 36 => ("LeafWorldsModel", "partSize", "[I", true)
  | 37 => ("LeafWorldsModel", "partAt", "[I", true)
  | 38 => ("LeafWorldsModel", "partMany", "I", false)
  | 39 => ("LeafWorldsModel", "partAll", "I", false)
  | 40 => ("LeafWorldsModel", "partWorld", "I", false)
  | 41 => ("LeafWorldsModel", "rowv", "[I", true)
  | 42 => ("LeafWorldsModel", "inverse", "[I", true)
  | 43 => ("LeafWorldsModel", "inverses", "I", false)
  | 44 => ("LeafWorldsModel", "sumTree", "[I", true)
  | 45 => ("LeafWorldsModel", "sumNumber", "[I", true)
  | 46 => ("LeafWorldsModel", "sumPath", "[I", true)
  | 47 => ("LeafWorldsModel", "sumMany", "I", false)
  | 48 => ("LeafWorldsModel", "sumLeaves", "I", false)
  | 49 => ("LeafWorldsModel", "open", "[I", true)
  | 50 => ("LeafWorldsModel", "readCode", "I", false)
  | 51 => ("LeafWorldsModel", "readLeaves", "I", false)
  | 52 => ("LeafWorldsModel", "readPlace", "I", false)
  | 53 => ("LeafWorldsModel", "namesFrom", "I", false)
  | 54 => ("LeafWorldsModel", "worldRead", "I", false)
  | 55 => ("LeafWorldsModel", "lines", "I", false)
  | 56 => ("LeafWorldsModel", "hasMod", "Z", false)
  | 57 => ("LeafWorldsModel", "heldSums", "[I", true)
  | 58 => ("LeafWorldsModel", "heldMany", "I", false)
  | 59 => ("LeafWorldsModel", "text", "[I", true)
  | 60 => ("LeafWorldsModel", "textLeft", "[I", true)
  | 61 => ("LeafWorldsModel", "piece", "[I", true)
  | 62 => ("LeafWorldsModel", "plugTree", "[I", true)
  | 63 => ("LeafWorldsModel", "plugNumber", "[I", true)
  | 64 => ("LeafWorldsModel", "dualRows", "[I", true)
  | 65 => ("LeafWorldsModel", "dualPivot", "[I", true)
  | 66 => ("LeafWorldsModel", "dualCode", "[I", true)
  | 67 => ("LeafWorldsModel", "first", "[J", true)
  | 68 => ("LeafWorldsModel", "power", "[J", true)
  | 69 => ("LeafWorldsModel", "backSeries", "[J", true)
  | 70 => ("LeafWorldsModel", "mapTree", "[I", true)
  | 71 => ("LeafWorldsModel", "mapNumber", "[I", true)
  | 72 => ("LeafWorldsModel", "mapMany", "[I", true)
  | 73 => ("LeafWorldsModel", "outer", "[I", true)
  | 74 => ("LeafWorldsModel", "outerLeaves", "[I", true)
  | 75 => ("LeafWorldsModel", "inner", "[I", true)
  | 76 => ("LeafWorldsModel", "innerLeaves", "[I", true)
  | 77 => ("LeafWorldsModel", "made", "[I", true)
  | 78 => ("LeafWorldsModel", "termTok", "[I", true)
  | 79 => ("LeafWorldsModel", "chosen", "[I", true)
  | 80 => ("LeafWorldsModel", "outerMany", "I", false)
  | 81 => ("LeafWorldsModel", "innerMany", "I", false)
  | 82 => ("LeafWorldsModel", "broken", "I", false)
  | 83 => ("LeafWorldsModel", "mapped", "[I", true)
  | 84 => ("LeafWorldsModel", "lawRow", "[I", true)
  | 85 => ("LeafWorldsModel", "vector", "[I", true)
  | 86 => ("LeafWorldsModel", "outcome", "[I", true)
  | 87 => ("LeafWorldsModel", "wayOf", "[I", true)
  | 88 => ("LeafWorldsModel", "rowWay", "[I", true)
  | 89 => ("LeafWorldsModel", "doneSum", "[I", true)
  | 90 => ("LeafWorldsModel", "seed", "I", false)
  | 91 => ("LeafWorldsModel", "kept", "[I", true)
  | 92 => ("LeafWorldsModel", "namesKept", "[J", true)
  | _ => ("LeafWorldsModel", "isKept", "[Z", true)
def tyX12 : Nat → FieldType := fun k => match k with
  | 0 => .int
  | 1 => .array .byte
  | 2 => .int
  | 3 => .int
  | 4 => .int
  | 5 => .int
  | 6 => .array .int
  | 7 => .array .int
  | 8 => .array .long
  | 9 => .int
  | 10 => .int
  | 11 => .int
  | 12 => .int
  | 13 => .int
  | 14 => .int
  | 15 => .long
  | 16 => .array .int
  | 17 => .array .int
  | 18 => .array .int
  | 19 => .array .int
  | 20 => .int
  | 21 => .int
  | 22 => .array .int
  | 23 => .array .int
  | 24 => .array .int
  | 25 => .array .int
  | 26 => .array .int
  | 27 => .array .int
  | 28 => .array .int
  | 29 => .array .int
  | 30 => .array .int
  | 31 => .array .int
  | 32 => .array .boolean
  | 33 => .int
  | 34 => .array .long
  | 35 => .array .long
  | 36 => .array .int
  | 37 => .array .int
  | 38 => .int
  | 39 => .int
  | 40 => .int
  | 41 => .array .int
  | 42 => .array .int
  | 43 => .int
  | 44 => .array .int
  | 45 => .array .int
  | 46 => .array .int
  | 47 => .int
  | 48 => .int
  | 49 => .array .int
  | 50 => .int
  | 51 => .int
  | 52 => .int
  | 53 => .int
  | 54 => .int
  | 55 => .int
  | 56 => .boolean
  | 57 => .array .int
  | 58 => .int
  | 59 => .array .int
  | 60 => .array .int
  | 61 => .array .int
  | 62 => .array .int
  | 63 => .array .int
  | 64 => .array .int
  | 65 => .array .int
  | 66 => .array .int
  | 67 => .array .long
  | 68 => .array .long
  | 69 => .array .long
  | 70 => .array .int
  | 71 => .array .int
  | 72 => .array .int
  | 73 => .array .int
  | 74 => .array .int
  | 75 => .array .int
  | 76 => .array .int
  | 77 => .array .int
  | 78 => .array .int
  | 79 => .array .int
  | 80 => .int
  | 81 => .int
  | 82 => .int
  | 83 => .array .int
  | 84 => .array .int
  | 85 => .array .int
  | 86 => .array .int
  | 87 => .array .int
  | 88 => .array .int
  | 89 => .array .int
  | 90 => .int
  | 91 => .array .int
  | 92 => .array .long
  | _ => .array .boolean
abbrev wsX120 : List Cond := u_ws RX12 TX12 94
theorem nmX12 : ∀ a, a < 94 → ∀ b, b < 94 → a ≠ b → (TX12 a).2.1 ≠ (TX12 b).2.1 := by decide +kernel
theorem tyX12_ok : ∀ k, k < 94 → parseFieldDescriptor (TX12 k).2.2.1 = some (tyX12 k) := by decide +kernel
abbrev cX12_thrown : ByteArray := prog_14_method_1_code
def yX12_thrown : MethodName := ⟨RX12, "thrown", "()I"⟩
abbrev cX12_throwsIf : ByteArray := prog_14_method_2_code
def yX12_throwsIf : MethodName := ⟨RX12, "throwsIf", "(Z)Z"⟩
abbrev cX12_feed : ByteArray := prog_14_method_3_code
def yX12_feed : MethodName := ⟨RX12, "feed", "(IIIII)I"⟩
abbrev cX12_four : ByteArray := prog_14_method_4_code
def yX12_four : MethodName := ⟨RX12, "four", "(I)V"⟩
abbrev cX12_end : ByteArray := prog_14_method_5_code
def yX12_end : MethodName := ⟨RX12, "end", "(I)Z"⟩
abbrev cX12_taken : ByteArray := prog_14_method_6_code
def yX12_taken : MethodName := ⟨RX12, "taken", "(I)V"⟩
abbrev cX12_isIn : ByteArray := prog_14_method_7_code
def yX12_isIn : MethodName := ⟨RX12, "isIn", "(III)Z"⟩
abbrev cX12_octet : ByteArray := prog_14_method_8_code
def yX12_octet : MethodName := ⟨RX12, "octet", "(I)I"⟩
abbrev cX12_init : ByteArray := prog_14_method_9_code
def yX12_init : MethodName := ⟨RX12, "<init>", "()V"⟩
abbrev cX12_plainWorld : ByteArray := prog_14_method_10_code
def yX12_plainWorld : MethodName := ⟨RX12, "plainWorld", "()V"⟩
abbrev cX12_plainSum : ByteArray := prog_14_method_11_code
def yX12_plainSum : MethodName := ⟨RX12, "plainSum", "()V"⟩
abbrev cX12_peek : ByteArray := prog_14_method_12_code
def yX12_peek : MethodName := ⟨RX12, "peek", "()I"⟩
abbrev cX12_isSmall : ByteArray := prog_14_method_13_code
def yX12_isSmall : MethodName := ⟨RX12, "isSmall", "(I)Z"⟩
abbrev cX12_isDigit : ByteArray := prog_14_method_14_code
def yX12_isDigit : MethodName := ⟨RX12, "isDigit", "(I)Z"⟩
abbrev cX12_next : ByteArray := prog_14_method_15_code
def yX12_next : MethodName := ⟨RX12, "next", "()V"⟩
abbrev cX12_bad : ByteArray := prog_14_method_16_code
def yX12_bad : MethodName := ⟨RX12, "bad", "(I)Z"⟩
abbrev cX12_isWord : ByteArray := prog_14_method_17_code
def yX12_isWord : MethodName := ⟨RX12, "isWord", "(J)Z"⟩
abbrev cX12_isSign : ByteArray := prog_14_method_18_code
def yX12_isSign : MethodName := ⟨RX12, "isSign", "(I)Z"⟩
abbrev cX12_sign : ByteArray := prog_14_method_19_code
def yX12_sign : MethodName := ⟨RX12, "sign", "(I)Z"⟩
abbrev cX12_tokens : ByteArray := prog_14_method_20_code
def yX12_tokens : MethodName := ⟨RX12, "tokens", "(I)V"⟩
abbrev cX12_join : ByteArray := prog_14_method_21_code
def yX12_join : MethodName := ⟨RX12, "join", "(II)I"⟩
abbrev cX12_paths : ByteArray := prog_14_method_22_code
def yX12_paths : MethodName := ⟨RX12, "paths", "(II)V"⟩
abbrev cX12_ownWorld : ByteArray := prog_14_method_23_code
def yX12_ownWorld : MethodName := ⟨RX12, "ownWorld", "()V"⟩
abbrev cX12_otherWorld : ByteArray := prog_14_method_24_code
def yX12_otherWorld : MethodName := ⟨RX12, "otherWorld", "()V"⟩
abbrev cX12_totals : ByteArray := prog_14_method_25_code
def yX12_totals : MethodName := ⟨RX12, "totals", "(I)V"⟩
abbrev cX12_forests : ByteArray := prog_14_method_26_code
def yX12_forests : MethodName := ⟨RX12, "forests", "(III)J"⟩
abbrev cX12_firstParts : ByteArray := prog_14_method_27_code
def yX12_firstParts : MethodName := ⟨RX12, "firstParts", "(III)Z"⟩
abbrev cX12_hasParts : ByteArray := prog_14_method_28_code
def yX12_hasParts : MethodName := ⟨RX12, "hasParts", "()Z"⟩
abbrev cX12_nextParts : ByteArray := prog_14_method_29_code
def yX12_nextParts : MethodName := ⟨RX12, "nextParts", "()Z"⟩
abbrev cX12_nextSizes : ByteArray := prog_14_method_30_code
def yX12_nextSizes : MethodName := ⟨RX12, "nextSizes", "()Z"⟩
abbrev cX12_partCode : ByteArray := prog_14_method_31_code
def yX12_partCode : MethodName := ⟨RX12, "partCode", "(I)I"⟩
abbrev cX12_list : ByteArray := prog_14_method_32_code
def yX12_list : MethodName := ⟨RX12, "list", "(II)V"⟩
abbrev cX12_putTree : ByteArray := prog_14_method_33_code
def yX12_putTree : MethodName := ⟨RX12, "putTree", "(III)V"⟩
abbrev cX12_isAhead : ByteArray := prog_14_method_34_code
def yX12_isAhead : MethodName := ⟨RX12, "isAhead", "(II)Z"⟩
abbrev cX12_place : ByteArray := prog_14_method_35_code
def yX12_place : MethodName := ⟨RX12, "place", "(III)I"⟩
abbrev cX12_settleInverses : ByteArray := prog_14_method_36_code
def yX12_settleInverses : MethodName := ⟨RX12, "settleInverses", "(I)V"⟩
abbrev cX12_rowAt : ByteArray := prog_14_method_37_code
def yX12_rowAt : MethodName := ⟨RX12, "rowAt", "(III)I"⟩
abbrev cX12_clearRow : ByteArray := prog_14_method_38_code
def yX12_clearRow : MethodName := ⟨RX12, "clearRow", "(I)V"⟩
abbrev cX12_lessen : ByteArray := prog_14_method_39_code
def yX12_lessen : MethodName := ⟨RX12, "lessen", "(II)V"⟩
abbrev cX12_insert : ByteArray := prog_14_method_40_code
def yX12_insert : MethodName := ⟨RX12, "insert", "(II)V"⟩
abbrev cX12_settle : ByteArray := prog_14_method_41_code
def yX12_settle : MethodName := ⟨RX12, "settle", "(II)V"⟩
abbrev cX12_isFull : ByteArray := prog_14_method_42_code
def yX12_isFull : MethodName := ⟨RX12, "isFull", "(II)Z"⟩
abbrev cX12_acted : ByteArray := prog_14_method_43_code
def yX12_acted : MethodName := ⟨RX12, "acted", "(II)V"⟩
abbrev cX12_lawful : ByteArray := prog_14_method_44_code
def yX12_lawful : MethodName := ⟨RX12, "lawful", "(II)V"⟩
abbrev cX12_filled : ByteArray := prog_14_method_45_code
def yX12_filled : MethodName := ⟨RX12, "filled", "(I)I"⟩
abbrev cX12_isBeyond : ByteArray := prog_14_method_46_code
def yX12_isBeyond : MethodName := ⟨RX12, "isBeyond", "(II)Z"⟩
abbrev cX12_sizeOf : ByteArray := prog_14_method_47_code
def yX12_sizeOf : MethodName := ⟨RX12, "sizeOf", "(II)I"⟩
abbrev cX12_noSum : ByteArray := prog_14_method_48_code
def yX12_noSum : MethodName := ⟨RX12, "noSum", "(I)V"⟩
abbrev cX12_addTerm : ByteArray := prog_14_method_49_code
def yX12_addTerm : MethodName := ⟨RX12, "addTerm", "(IIII)V"⟩
abbrev cX12_isGreater : ByteArray := prog_14_method_50_code
def yX12_isGreater : MethodName := ⟨RX12, "isGreater", "(I)Z"⟩
abbrev cX12_noZeros : ByteArray := prog_14_method_51_code
def yX12_noZeros : MethodName := ⟨RX12, "noZeros", "()V"⟩
abbrev cX12_isName : ByteArray := prog_14_method_52_code
def yX12_isName : MethodName := ⟨RX12, "isName", "()Z"⟩
abbrev cX12_readTree : ByteArray := prog_14_method_53_code
def yX12_readTree : MethodName := ⟨RX12, "readTree", "()Z"⟩
abbrev cX12_badAt : ByteArray := prog_14_method_54_code
def yX12_badAt : MethodName := ⟨RX12, "badAt", "(II)Z"⟩
abbrev cX12_readSum : ByteArray := prog_14_method_55_code
def yX12_readSum : MethodName := ⟨RX12, "readSum", "(ZI)Z"⟩
abbrev cX12_isPrime : ByteArray := prog_14_method_56_code
def yX12_isPrime : MethodName := ⟨RX12, "isPrime", "(I)Z"⟩
abbrev cX12_line : ByteArray := prog_14_method_57_code
def yX12_line : MethodName := ⟨RX12, "line", "()Z"⟩
abbrev cX12_readAct : ByteArray := prog_14_method_58_code
def yX12_readAct : MethodName := ⟨RX12, "readAct", "()Z"⟩
abbrev cX12_world : ByteArray := prog_14_method_59_code
def yX12_world : MethodName := ⟨RX12, "world", "()I"⟩
abbrev cX12_fault : ByteArray := prog_14_method_60_code
def yX12_fault : MethodName := ⟨RX12, "fault", "()I"⟩
abbrev cX12_isAct : ByteArray := prog_14_method_61_code
def yX12_isAct : MethodName := ⟨RX12, "isAct", "(I)Z"⟩
abbrev cX12_isLaw : ByteArray := prog_14_method_62_code
def yX12_isLaw : MethodName := ⟨RX12, "isLaw", "(I)Z"⟩
abbrev cX12_act : ByteArray := prog_14_method_63_code
def yX12_act : MethodName := ⟨RX12, "act", "(I)I"⟩
abbrev cX12_law : ByteArray := prog_14_method_64_code
def yX12_law : MethodName := ⟨RX12, "law", "(II)I"⟩
abbrev cX12_trees : ByteArray := prog_14_method_65_code
def yX12_trees : MethodName := ⟨RX12, "trees", "(I)J"⟩
abbrev cX12_hold : ByteArray := prog_14_method_66_code
def yX12_hold : MethodName := ⟨RX12, "hold", "()V"⟩
abbrev cX12_keepSum : ByteArray := prog_14_method_67_code
def yX12_keepSum : MethodName := ⟨RX12, "keepSum", "()I"⟩
abbrev cX12_undo : ByteArray := prog_14_method_68_code
def yX12_undo : MethodName := ⟨RX12, "undo", "()I"⟩
abbrev cX12_addLaw : ByteArray := prog_14_method_69_code
def yX12_addLaw : MethodName := ⟨RX12, "addLaw", "(II)V"⟩
abbrev cX12_addHere : ByteArray := prog_14_method_70_code
def yX12_addHere : MethodName := ⟨RX12, "addHere", "(I)V"⟩
abbrev cX12_rest : ByteArray := prog_14_method_71_code
def yX12_rest : MethodName := ⟨RX12, "rest", "(I)I"⟩
abbrev cX12_take : ByteArray := prog_14_method_72_code
def yX12_take : MethodName := ⟨RX12, "take", "(I)I"⟩
abbrev cX12_readOwn : ByteArray := prog_14_method_73_code
def yX12_readOwn : MethodName := ⟨RX12, "readOwn", "()Z"⟩
abbrev cX12_sum : ByteArray := prog_14_method_74_code
def yX12_sum : MethodName := ⟨RX12, "sum", "()I"⟩
abbrev cX12_leaves : ByteArray := prog_14_method_75_code
def yX12_leaves : MethodName := ⟨RX12, "leaves", "()I"⟩
abbrev cX12_term : ByteArray := prog_14_method_76_code
def yX12_term : MethodName := ⟨RX12, "term", "(I)I"⟩
abbrev cX12_write : ByteArray := prog_14_method_77_code
def yX12_write : MethodName := ⟨RX12, "write", "(I)I"⟩
abbrev cX12_termAt : ByteArray := prog_14_method_78_code
def yX12_termAt : MethodName := ⟨RX12, "termAt", "(II)I"⟩
abbrev cX12_rowSum : ByteArray := prog_14_method_79_code
def yX12_rowSum : MethodName := ⟨RX12, "rowSum", "(I)V"⟩
abbrev cX12_reduce : ByteArray := prog_14_method_80_code
def yX12_reduce : MethodName := ⟨RX12, "reduce", "()I"⟩
abbrev cX12_size : ByteArray := prog_14_method_81_code
def yX12_size : MethodName := ⟨RX12, "size", "(I)I"⟩
abbrev cX12_normalAt : ByteArray := prog_14_method_82_code
def yX12_normalAt : MethodName := ⟨RX12, "normalAt", "(III)I"⟩
abbrev cX12_endOf : ByteArray := prog_14_method_83_code
def yX12_endOf : MethodName := ⟨RX12, "endOf", "(I)I"⟩
abbrev cX12_hasPiece : ByteArray := prog_14_method_84_code
def yX12_hasPiece : MethodName := ⟨RX12, "hasPiece", "(I)Z"⟩
abbrev cX12_bareOf : ByteArray := prog_14_method_85_code
def yX12_bareOf : MethodName := ⟨RX12, "bareOf", "(I)I"⟩
abbrev cX12_bare : ByteArray := prog_14_method_86_code
def yX12_bare : MethodName := ⟨RX12, "bare", "(I)I"⟩
abbrev cX12_closed : ByteArray := prog_14_method_87_code
def yX12_closed : MethodName := ⟨RX12, "closed", "(I)I"⟩
abbrev cX12_plugged : ByteArray := prog_14_method_88_code
def yX12_plugged : MethodName := ⟨RX12, "plugged", "(III)I"⟩
abbrev cX12_plug : ByteArray := prog_14_method_89_code
def yX12_plug : MethodName := ⟨RX12, "plug", "(I)I"⟩
abbrev cX12_times : ByteArray := prog_14_method_90_code
def yX12_times : MethodName := ⟨RX12, "times", "(I)I"⟩
abbrev cX12_add : ByteArray := prog_14_method_91_code
def yX12_add : MethodName := ⟨RX12, "add", "(II)I"⟩
abbrev cX12_hasDual : ByteArray := prog_14_method_92_code
def yX12_hasDual : MethodName := ⟨RX12, "hasDual", "()Z"⟩
abbrev cX12_makeDual : ByteArray := prog_14_method_93_code
def yX12_makeDual : MethodName := ⟨RX12, "makeDual", "()V"⟩
abbrev cX12_equations : ByteArray := prog_14_method_94_code
def yX12_equations : MethodName := ⟨RX12, "equations", "(II)V"⟩
abbrev cX12_dual : ByteArray := prog_14_method_95_code
def yX12_dual : MethodName := ⟨RX12, "dual", "()I"⟩
abbrev cX12_series : ByteArray := prog_14_method_96_code
def yX12_series : MethodName := ⟨RX12, "series", "(II)Z"⟩
abbrev cX12_powers : ByteArray := prog_14_method_97_code
def yX12_powers : MethodName := ⟨RX12, "powers", "(II)V"⟩
abbrev cX12_back : ByteArray := prog_14_method_98_code
def yX12_back : MethodName := ⟨RX12, "back", "(I)V"⟩
abbrev cX12_undone : ByteArray := prog_14_method_99_code
def yX12_undone : MethodName := ⟨RX12, "undone", "(I)J"⟩
abbrev cX12_koszul : ByteArray := prog_14_method_100_code
def yX12_koszul : MethodName := ⟨RX12, "koszul", "(I)I"⟩
abbrev cX12_isKeptAt : ByteArray := prog_14_method_101_code
def yX12_isKeptAt : MethodName := ⟨RX12, "isKeptAt", "(I)Z"⟩
abbrev cX12_loads : ByteArray := prog_14_method_102_code
def yX12_loads : MethodName := ⟨RX12, "loads", "(I)V"⟩
abbrev cX12_layered : ByteArray := prog_14_method_103_code
def yX12_layered : MethodName := ⟨RX12, "layered", "(II)J"⟩
abbrev cX12_readMap : ByteArray := prog_14_method_104_code
def yX12_readMap : MethodName := ⟨RX12, "readMap", "()Z"⟩
abbrev cX12_isGreatThere : ByteArray := prog_14_method_105_code
def yX12_isGreatThere : MethodName := ⟨RX12, "isGreatThere", "(I)Z"⟩
abbrev cX12_graft : ByteArray := prog_14_method_106_code
def yX12_graft : MethodName := ⟨RX12, "graft", "(I)V"⟩
abbrev cX12_actMapped : ByteArray := prog_14_method_107_code
def yX12_actMapped : MethodName := ⟨RX12, "actMapped", "(I)V"⟩
abbrev cX12_keeps : ByteArray := prog_14_method_108_code
def yX12_keeps : MethodName := ⟨RX12, "keeps", "(I)Z"⟩
abbrev cX12_map : ByteArray := prog_14_method_109_code
def yX12_map : MethodName := ⟨RX12, "map", "(I)I"⟩
abbrev cX12_broken : ByteArray := prog_14_method_110_code
def yX12_broken : MethodName := ⟨RX12, "broken", "()I"⟩
abbrev cX12_table0 : ByteArray := prog_14_method_111_code
def yX12_table0 : MethodName := ⟨RX12, "table0", "(I)I"⟩
abbrev cX12_space : ByteArray := prog_14_method_112_code
def yX12_space : MethodName := ⟨RX12, "space", "(I)Z"⟩
abbrev cX12_table : ByteArray := prog_14_method_113_code
def yX12_table : MethodName := ⟨RX12, "table", "(I)Z"⟩
abbrev cX12_doTree : ByteArray := prog_14_method_114_code
def yX12_doTree : MethodName := ⟨RX12, "doTree", "(II)V"⟩
abbrev cX12_holds : ByteArray := prog_14_method_115_code
def yX12_holds : MethodName := ⟨RX12, "holds", "(I)I"⟩
abbrev cX12_done : ByteArray := prog_14_method_116_code
def yX12_done : MethodName := ⟨RX12, "done", "(I)I"⟩
abbrev cX12_draw : ByteArray := prog_14_method_117_code
def yX12_draw : MethodName := ⟨RX12, "draw", "(I)I"⟩
abbrev cX12_drawn : ByteArray := prog_14_method_118_code
def yX12_drawn : MethodName := ⟨RX12, "drawn", "(II)I"⟩
abbrev cX12_image : ByteArray := prog_14_method_119_code
def yX12_image : MethodName := ⟨RX12, "image", "(I)Z"⟩
abbrev cX12_restore : ByteArray := prog_14_method_120_code
def yX12_restore : MethodName := ⟨RX12, "restore", "(I)Z"⟩
abbrev cX12_count : ByteArray := prog_14_method_121_code
def yX12_count : MethodName := ⟨RX12, "count", "(I)I"⟩
def RJx145de : String := "java/io/Serializable"
def TJx145de : u_T := fun k => match k with
  | _ => ("", "", "", false)
def tyJx145de : Nat → FieldType := fun k => match k with
  | _ => .int
abbrev wsJx145de0 : List Cond := u_ws RJx145de TJx145de 0
theorem nmJx145de : ∀ a, a < 0 → ∀ b, b < 0 → a ≠ b → (TJx145de a).2.1 ≠ (TJx145de b).2.1 := by decide +kernel
theorem tyJx145de_ok : ∀ k, k < 0 → parseFieldDescriptor (TJx145de k).2.2.1 = some (tyJx145de k) := by decide +kernel
def RJx8e188 : String := "java/lang/Cloneable"
def TJx8e188 : u_T := fun k => match k with
  | _ => ("", "", "", false)
def tyJx8e188 : Nat → FieldType := fun k => match k with
  | _ => .int
abbrev wsJx8e1880 : List Cond := u_ws RJx8e188 TJx8e188 0
theorem nmJx8e188 : ∀ a, a < 0 → ∀ b, b < 0 → a ≠ b → (TJx8e188 a).2.1 ≠ (TJx8e188 b).2.1 := by decide +kernel
theorem tyJx8e188_ok : ∀ k, k < 0 → parseFieldDescriptor (TJx8e188 k).2.2.1 = some (tyJx8e188 k) := by decide +kernel
def RJ9 : String := "java/lang/Math"
def TJ9 : u_T := fun k => match k with
  | _ => ("", "", "", false)
def tyJ9 : Nat → FieldType := fun k => match k with
  | _ => .int
abbrev wsJ90 : List Cond := u_ws RJ9 TJ9 0
theorem nmJ9 : ∀ a, a < 0 → ∀ b, b < 0 → a ≠ b → (TJ9 a).2.1 ≠ (TJ9 b).2.1 := by decide +kernel
theorem tyJ9_ok : ∀ k, k < 0 → parseFieldDescriptor (TJ9 k).2.2.1 = some (tyJ9 k) := by decide +kernel
abbrev cJ9_max_7cf53 : ByteArray := prog_18_method_65_code
def yJ9_max_7cf53 : MethodName := ⟨RJ9, "max", "(II)I"⟩
abbrev cJ9_min_7cf53 : ByteArray := prog_18_method_69_code
def yJ9_min_7cf53 : MethodName := ⟨RJ9, "min", "(II)I"⟩
def RJ0 : String := "java/lang/String"
def TJ0 : u_T := fun k => match k with
  | _ => ("", "", "", false)
def tyJ0 : Nat → FieldType := fun k => match k with
  | _ => .int
abbrev wsJ00 : List Cond := u_ws RJ0 TJ0 0
theorem nmJ0 : ∀ a, a < 0 → ∀ b, b < 0 → a ≠ b → (TJ0 a).2.1 ≠ (TJ0 b).2.1 := by decide +kernel
theorem tyJ0_ok : ∀ k, k < 0 → parseFieldDescriptor (TJ0 k).2.2.1 = some (tyJ0 k) := by decide +kernel
def RJ10 : String := "java/lang/System"
def TJ10 : u_T := fun k => match k with
  | _ => ("", "", "", false)
def tyJ10 : Nat → FieldType := fun k => match k with
  | _ => .int
abbrev wsJ100 : List Cond := u_ws RJ10 TJ10 0
theorem nmJ10 : ∀ a, a < 0 → ∀ b, b < 0 → a ≠ b → (TJ10 a).2.1 ≠ (TJ10 b).2.1 := by decide +kernel
theorem tyJ10_ok : ∀ k, k < 0 → parseFieldDescriptor (TJ10 k).2.2.1 = some (tyJ10 k) := by decide +kernel
def RJ7 : String := "java/util/Arrays"
def TJ7 : u_T := fun k => match k with
  | _ => ("", "", "", false)
def tyJ7 : Nat → FieldType := fun k => match k with
  | _ => .int
abbrev wsJ70 : List Cond := u_ws RJ7 TJ7 0
theorem nmJ7 : ∀ a, a < 0 → ∀ b, b < 0 → a ≠ b → (TJ7 a).2.1 ≠ (TJ7 b).2.1 := by decide +kernel
theorem tyJ7_ok : ∀ k, k < 0 → parseFieldDescriptor (TJ7 k).2.2.1 = some (tyJ7 k) := by decide +kernel
abbrev cJ7_rangeCheck_23922 : ByteArray := prog_23_method_30_code
def yJ7_rangeCheck_23922 : MethodName := ⟨RJ7, "rangeCheck", "(III)V"⟩
abbrev cJ7_fill_53178 : ByteArray := prog_23_method_103_code
def yJ7_fill_53178 : MethodName := ⟨RJ7, "fill", "([II)V"⟩
abbrev cJ7_fill_fda19 : ByteArray := prog_23_method_104_code
def yJ7_fill_fda19 : MethodName := ⟨RJ7, "fill", "([IIII)V"⟩
abbrev cJ7_copyOf_59c91 : ByteArray := prog_23_method_123_code
def yJ7_copyOf_59c91 : MethodName := ⟨RJ7, "copyOf", "([II)[I"⟩
def RL : String := "LeafWorldsLaw"
abbrev cL_term : ByteArray := method_3_code
def yL_term : MethodName := ⟨RL, "term", "(LLeafWorlds;I[J)I"⟩
abbrev cL_undone : ByteArray := method_4_code
def yL_undone : MethodName := ⟨RL, "undone", "(LLeafWorlds;I[J)I"⟩
abbrev cL_law : ByteArray := code
def yL_law : MethodName := ⟨RL, "law", "([I)Z"⟩
abbrev vwCl : List vw_C := [(RX0, TX0, 13), (RX1, TX1, 6), (RX2, TX2, 3), (RX3, TX3, 6), (RX4, TX4, 16), (RX5, TX5, 2), (RX6, TX6, 4), (RX7, TX7, 2), (RX8, TX8, 4), (RX9, TX9, 11), (RX10, TX10, 4), (RX11, TX11, 20), (RX12, TX12, 94)]
