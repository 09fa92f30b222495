section
-- ===== PART A: goes FIRST, ahead of the names: the tables' words, and 'selects' of the private methods out of them =====
/-- a private method of a class that the tables say can be made, by its rows of tables_1 -/
def lw_okq (q : MethodName × Nat) : Prop := (q.1.cls ≠ "java/lang/invoke/MethodHandle" ∧ q.1.cls ≠ "java/lang/invoke/VarHandle") ∧ Cond.instantiable q.1.cls q.2 ∈ tables_1 ∧ Cond.privateMethod q.1 ∈ tables_1 ∧ Cond.instanceMethod q.1 ∈ tables_1
theorem lw_p0 : lw_okq (⟨"QuerySteps$Source", "spells", "(Ljava/lang/String;I)Z"⟩, 3) := ⟨⟨by decide +kernel, by decide +kernel⟩, List.mem_of_getElem? (i := 27) (by decide +kernel), List.mem_of_getElem? (i := 278) (by decide +kernel), List.mem_of_getElem? (i := 279) (by decide +kernel)⟩
theorem lw_p1 : lw_okq (⟨"QuerySteps$Indexes", "isNameOf", "(ILQuerySteps$Source;I)Z"⟩, 5) := ⟨⟨by decide +kernel, by decide +kernel⟩, List.mem_of_getElem? (i := 44) (by decide +kernel), List.mem_of_getElem? (i := 336) (by decide +kernel), List.mem_of_getElem? (i := 337) (by decide +kernel)⟩
theorem lw_p2 : lw_okq (⟨"QuerySteps$Indexes", "lengthOf", "(I)I"⟩, 5) := ⟨⟨by decide +kernel, by decide +kernel⟩, List.mem_of_getElem? (i := 44) (by decide +kernel), List.mem_of_getElem? (i := 344) (by decide +kernel), List.mem_of_getElem? (i := 345) (by decide +kernel)⟩
theorem lw_p3 : lw_okq (⟨"QuerySteps$Indexes", "letterOf", "(II)I"⟩, 5) := ⟨⟨by decide +kernel, by decide +kernel⟩, List.mem_of_getElem? (i := 44) (by decide +kernel), List.mem_of_getElem? (i := 352) (by decide +kernel), List.mem_of_getElem? (i := 353) (by decide +kernel)⟩
theorem lw_p4 : lw_okq (⟨"QuerySteps$BetweenReader", "takesTerm", "(I)Z"⟩, 4) := ⟨⟨by decide +kernel, by decide +kernel⟩, List.mem_of_getElem? (i := 102) (by decide +kernel), List.mem_of_getElem? (i := 393) (by decide +kernel), List.mem_of_getElem? (i := 394) (by decide +kernel)⟩
theorem lw_p5 : lw_okq (⟨"QuerySteps$BetweenReader", "takesValues", "(I)Z"⟩, 4) := ⟨⟨by decide +kernel, by decide +kernel⟩, List.mem_of_getElem? (i := 102) (by decide +kernel), List.mem_of_getElem? (i := 424) (by decide +kernel), List.mem_of_getElem? (i := 425) (by decide +kernel)⟩
theorem lw_p6 : lw_okq (⟨"QuerySteps$Tree", "put", "(IIIII)V"⟩, 5) := ⟨⟨by decide +kernel, by decide +kernel⟩, List.mem_of_getElem? (i := 80) (by decide +kernel), List.mem_of_getElem? (i := 440) (by decide +kernel), List.mem_of_getElem? (i := 441) (by decide +kernel)⟩
theorem lw_p7 : lw_okq (⟨"QuerySteps$Tree", "has", "(I)Z"⟩, 5) := ⟨⟨by decide +kernel, by decide +kernel⟩, List.mem_of_getElem? (i := 80) (by decide +kernel), List.mem_of_getElem? (i := 444) (by decide +kernel), List.mem_of_getElem? (i := 445) (by decide +kernel)⟩
theorem lw_p8 : lw_okq (⟨"QuerySteps$BetweenReader", "takeJoint", "(II)I"⟩, 4) := ⟨⟨by decide +kernel, by decide +kernel⟩, List.mem_of_getElem? (i := 102) (by decide +kernel), List.mem_of_getElem? (i := 456) (by decide +kernel), List.mem_of_getElem? (i := 457) (by decide +kernel)⟩
theorem lw_p9 : lw_okq (⟨"QuerySteps$Tree", "copyNode", "(ILQuerySteps$Tree;I)V"⟩, 5) := ⟨⟨by decide +kernel, by decide +kernel⟩, List.mem_of_getElem? (i := 80) (by decide +kernel), List.mem_of_getElem? (i := 466) (by decide +kernel), List.mem_of_getElem? (i := 467) (by decide +kernel)⟩
theorem lw_p10 : lw_okq (⟨"QuerySteps$FrontReader", "takesLeaf", "(I)Z"⟩, 4) := ⟨⟨by decide +kernel, by decide +kernel⟩, List.mem_of_getElem? (i := 132) (by decide +kernel), List.mem_of_getElem? (i := 492) (by decide +kernel), List.mem_of_getElem? (i := 493) (by decide +kernel)⟩
theorem lw_p11 : lw_okq (⟨"QuerySteps$FrontReader", "takesBranch", "(I)Z"⟩, 4) := ⟨⟨by decide +kernel, by decide +kernel⟩, List.mem_of_getElem? (i := 132) (by decide +kernel), List.mem_of_getElem? (i := 508) (by decide +kernel), List.mem_of_getElem? (i := 509) (by decide +kernel)⟩
theorem lw_p12 : lw_okq (⟨"QuerySteps$Indexes", "changesTo", "(ILQuerySteps$Unknown;)I"⟩, 5) := ⟨⟨by decide +kernel, by decide +kernel⟩, List.mem_of_getElem? (i := 44) (by decide +kernel), List.mem_of_getElem? (i := 543) (by decide +kernel), List.mem_of_getElem? (i := 544) (by decide +kernel)⟩
theorem lw_p13 : lw_okq (⟨"QuerySteps$Records", "has", "(I)Z"⟩, 6) := ⟨⟨by decide +kernel, by decide +kernel⟩, List.mem_of_getElem? (i := 143) (by decide +kernel), List.mem_of_getElem? (i := 566) (by decide +kernel), List.mem_of_getElem? (i := 567) (by decide +kernel)⟩
theorem lw_p14 : lw_okq (⟨"QuerySteps", "canRun", "(I)Z"⟩, 10) := ⟨⟨by decide +kernel, by decide +kernel⟩, List.mem_of_getElem? (i := 19) (by decide +kernel), List.mem_of_getElem? (i := 593) (by decide +kernel), List.mem_of_getElem? (i := 594) (by decide +kernel)⟩
theorem lw_p15 : lw_okq (⟨"QuerySteps", "isSaved", "(I)Z"⟩, 10) := ⟨⟨by decide +kernel, by decide +kernel⟩, List.mem_of_getElem? (i := 19) (by decide +kernel), List.mem_of_getElem? (i := 597) (by decide +kernel), List.mem_of_getElem? (i := 598) (by decide +kernel)⟩
def lw_privs_1 : List (MethodName × Nat) := [(⟨"QuerySteps$Source", "spells", "(Ljava/lang/String;I)Z"⟩, 3), (⟨"QuerySteps$Indexes", "isNameOf", "(ILQuerySteps$Source;I)Z"⟩, 5), (⟨"QuerySteps$Indexes", "lengthOf", "(I)I"⟩, 5), (⟨"QuerySteps$Indexes", "letterOf", "(II)I"⟩, 5), (⟨"QuerySteps$BetweenReader", "takesTerm", "(I)Z"⟩, 4), (⟨"QuerySteps$BetweenReader", "takesValues", "(I)Z"⟩, 4), (⟨"QuerySteps$Tree", "put", "(IIIII)V"⟩, 5), (⟨"QuerySteps$Tree", "has", "(I)Z"⟩, 5), (⟨"QuerySteps$BetweenReader", "takeJoint", "(II)I"⟩, 4), (⟨"QuerySteps$Tree", "copyNode", "(ILQuerySteps$Tree;I)V"⟩, 5), (⟨"QuerySteps$FrontReader", "takesLeaf", "(I)Z"⟩, 4), (⟨"QuerySteps$FrontReader", "takesBranch", "(I)Z"⟩, 4), (⟨"QuerySteps$Indexes", "changesTo", "(ILQuerySteps$Unknown;)I"⟩, 5), (⟨"QuerySteps$Records", "has", "(I)Z"⟩, 6), (⟨"QuerySteps", "canRun", "(I)Z"⟩, 10), (⟨"QuerySteps", "isSaved", "(I)Z"⟩, 10)]
theorem lw_r1 : ∀ q ∈ lw_privs_1, lw_okq q := List.forall_mem_cons.mpr ⟨lw_p0, List.forall_mem_cons.mpr ⟨lw_p1, List.forall_mem_cons.mpr ⟨lw_p2, List.forall_mem_cons.mpr ⟨lw_p3, List.forall_mem_cons.mpr ⟨lw_p4, List.forall_mem_cons.mpr ⟨lw_p5, List.forall_mem_cons.mpr ⟨lw_p6, List.forall_mem_cons.mpr ⟨lw_p7, List.forall_mem_cons.mpr ⟨lw_p8, List.forall_mem_cons.mpr ⟨lw_p9, List.forall_mem_cons.mpr ⟨lw_p10, List.forall_mem_cons.mpr ⟨lw_p11, List.forall_mem_cons.mpr ⟨lw_p12, List.forall_mem_cons.mpr ⟨lw_p13, List.forall_mem_cons.mpr ⟨lw_p14, List.forall_mem_cons.mpr ⟨lw_p15, fun _ h => absurd h List.not_mem_nil⟩⟩⟩⟩⟩⟩⟩⟩⟩⟩⟩⟩⟩⟩⟩⟩
theorem lw_p16 : lw_okq (⟨"QuerySteps$Records", "isSimpleMet", "(LQuerySteps$Tree;II)Z"⟩, 6) := ⟨⟨by decide +kernel, by decide +kernel⟩, List.mem_of_getElem? (i := 143) (by decide +kernel), List.mem_of_getElem? (i := 626) (by decide +kernel), List.mem_of_getElem? (i := 627) (by decide +kernel)⟩
theorem lw_p17 : lw_okq (⟨"QuerySteps$Hits", "insert", "(LQuerySteps$Records;I)V"⟩, 2) := ⟨⟨by decide +kernel, by decide +kernel⟩, List.mem_of_getElem? (i := 194) (by decide +kernel), List.mem_of_getElem? (i := 643) (by decide +kernel), List.mem_of_getElem? (i := 644) (by decide +kernel)⟩
theorem lw_p18 : lw_okq (⟨"QuerySteps$Tree", "isNodeLike", "(LQuerySteps$Tree;I)Z"⟩, 5) := ⟨⟨by decide +kernel, by decide +kernel⟩, List.mem_of_getElem? (i := 80) (by decide +kernel), List.mem_of_getElem? (i := 673) (by decide +kernel), List.mem_of_getElem? (i := 674) (by decide +kernel)⟩
theorem lw_p19 : lw_okq (⟨"QueryStepsModel", "letters", "(I)I"⟩, 29) := ⟨⟨by decide +kernel, by decide +kernel⟩, List.mem_of_getElem? (i := 681) (by decide +kernel), List.mem_of_getElem? (i := 783) (by decide +kernel), List.mem_of_getElem? (i := 784) (by decide +kernel)⟩
theorem lw_p20 : lw_okq (⟨"QueryStepsModel", "look", "(I)I"⟩, 29) := ⟨⟨by decide +kernel, by decide +kernel⟩, List.mem_of_getElem? (i := 681) (by decide +kernel), List.mem_of_getElem? (i := 787) (by decide +kernel), List.mem_of_getElem? (i := 788) (by decide +kernel)⟩
theorem lw_p21 : lw_okq (⟨"QueryStepsModel", "word", "(II)I"⟩, 29) := ⟨⟨by decide +kernel, by decide +kernel⟩, List.mem_of_getElem? (i := 681) (by decide +kernel), List.mem_of_getElem? (i := 794) (by decide +kernel), List.mem_of_getElem? (i := 795) (by decide +kernel)⟩
theorem lw_p22 : lw_okq (⟨"QueryStepsModel", "named", "(II)I"⟩, 29) := ⟨⟨by decide +kernel, by decide +kernel⟩, List.mem_of_getElem? (i := 681) (by decide +kernel), List.mem_of_getElem? (i := 798) (by decide +kernel), List.mem_of_getElem? (i := 799) (by decide +kernel)⟩
theorem lw_p23 : lw_okq (⟨"QueryStepsModel", "first", "()Z"⟩, 29) := ⟨⟨by decide +kernel, by decide +kernel⟩, List.mem_of_getElem? (i := 681) (by decide +kernel), List.mem_of_getElem? (i := 810) (by decide +kernel), List.mem_of_getElem? (i := 811) (by decide +kernel)⟩
theorem lw_p24 : lw_okq (⟨"QueryStepsModel", "depth", "()I"⟩, 29) := ⟨⟨by decide +kernel, by decide +kernel⟩, List.mem_of_getElem? (i := 681) (by decide +kernel), List.mem_of_getElem? (i := 814) (by decide +kernel), List.mem_of_getElem? (i := 815) (by decide +kernel)⟩
theorem lw_p25 : lw_okq (⟨"QueryStepsModel", "bad", "(I)Z"⟩, 29) := ⟨⟨by decide +kernel, by decide +kernel⟩, List.mem_of_getElem? (i := 681) (by decide +kernel), List.mem_of_getElem? (i := 818) (by decide +kernel), List.mem_of_getElem? (i := 819) (by decide +kernel)⟩
theorem lw_p26 : lw_okq (⟨"QueryStepsModel", "leaf", "()Z"⟩, 29) := ⟨⟨by decide +kernel, by decide +kernel⟩, List.mem_of_getElem? (i := 681) (by decide +kernel), List.mem_of_getElem? (i := 822) (by decide +kernel), List.mem_of_getElem? (i := 823) (by decide +kernel)⟩
theorem lw_p27 : lw_okq (⟨"QueryStepsModel", "name", "()I"⟩, 29) := ⟨⟨by decide +kernel, by decide +kernel⟩, List.mem_of_getElem? (i := 681) (by decide +kernel), List.mem_of_getElem? (i := 826) (by decide +kernel), List.mem_of_getElem? (i := 827) (by decide +kernel)⟩
theorem lw_p28 : lw_okq (⟨"QueryStepsModel", "count", "()I"⟩, 29) := ⟨⟨by decide +kernel, by decide +kernel⟩, List.mem_of_getElem? (i := 681) (by decide +kernel), List.mem_of_getElem? (i := 830) (by decide +kernel), List.mem_of_getElem? (i := 831) (by decide +kernel)⟩
theorem lw_p29 : lw_okq (⟨"QueryStepsModel", "must", "(I)Z"⟩, 29) := ⟨⟨by decide +kernel, by decide +kernel⟩, List.mem_of_getElem? (i := 681) (by decide +kernel), List.mem_of_getElem? (i := 834) (by decide +kernel), List.mem_of_getElem? (i := 835) (by decide +kernel)⟩
theorem lw_p30 : lw_okq (⟨"QueryStepsModel", "value", "()I"⟩, 29) := ⟨⟨by decide +kernel, by decide +kernel⟩, List.mem_of_getElem? (i := 681) (by decide +kernel), List.mem_of_getElem? (i := 838) (by decide +kernel), List.mem_of_getElem? (i := 839) (by decide +kernel)⟩
theorem lw_p31 : lw_okq (⟨"QueryStepsModel", "range", "(II)Z"⟩, 29) := ⟨⟨by decide +kernel, by decide +kernel⟩, List.mem_of_getElem? (i := 681) (by decide +kernel), List.mem_of_getElem? (i := 845) (by decide +kernel), List.mem_of_getElem? (i := 846) (by decide +kernel)⟩
def lw_privs_2 : List (MethodName × Nat) := [(⟨"QuerySteps$Records", "isSimpleMet", "(LQuerySteps$Tree;II)Z"⟩, 6), (⟨"QuerySteps$Hits", "insert", "(LQuerySteps$Records;I)V"⟩, 2), (⟨"QuerySteps$Tree", "isNodeLike", "(LQuerySteps$Tree;I)Z"⟩, 5), (⟨"QueryStepsModel", "letters", "(I)I"⟩, 29), (⟨"QueryStepsModel", "look", "(I)I"⟩, 29), (⟨"QueryStepsModel", "word", "(II)I"⟩, 29), (⟨"QueryStepsModel", "named", "(II)I"⟩, 29), (⟨"QueryStepsModel", "first", "()Z"⟩, 29), (⟨"QueryStepsModel", "depth", "()I"⟩, 29), (⟨"QueryStepsModel", "bad", "(I)Z"⟩, 29), (⟨"QueryStepsModel", "leaf", "()Z"⟩, 29), (⟨"QueryStepsModel", "name", "()I"⟩, 29), (⟨"QueryStepsModel", "count", "()I"⟩, 29), (⟨"QueryStepsModel", "must", "(I)Z"⟩, 29), (⟨"QueryStepsModel", "value", "()I"⟩, 29), (⟨"QueryStepsModel", "range", "(II)Z"⟩, 29)]
theorem lw_r2 : ∀ q ∈ lw_privs_2, lw_okq q := List.forall_mem_cons.mpr ⟨lw_p16, List.forall_mem_cons.mpr ⟨lw_p17, List.forall_mem_cons.mpr ⟨lw_p18, List.forall_mem_cons.mpr ⟨lw_p19, List.forall_mem_cons.mpr ⟨lw_p20, List.forall_mem_cons.mpr ⟨lw_p21, List.forall_mem_cons.mpr ⟨lw_p22, List.forall_mem_cons.mpr ⟨lw_p23, List.forall_mem_cons.mpr ⟨lw_p24, List.forall_mem_cons.mpr ⟨lw_p25, List.forall_mem_cons.mpr ⟨lw_p26, List.forall_mem_cons.mpr ⟨lw_p27, List.forall_mem_cons.mpr ⟨lw_p28, List.forall_mem_cons.mpr ⟨lw_p29, List.forall_mem_cons.mpr ⟨lw_p30, List.forall_mem_cons.mpr ⟨lw_p31, fun _ h => absurd h List.not_mem_nil⟩⟩⟩⟩⟩⟩⟩⟩⟩⟩⟩⟩⟩⟩⟩⟩
theorem lw_p32 : lw_okq (⟨"QueryStepsModel", "add", "(IIII)V"⟩, 29) := ⟨⟨by decide +kernel, by decide +kernel⟩, List.mem_of_getElem? (i := 681) (by decide +kernel), List.mem_of_getElem? (i := 849) (by decide +kernel), List.mem_of_getElem? (i := 850) (by decide +kernel)⟩
theorem lw_p33 : lw_okq (⟨"QueryStepsModel", "settle", "(I)V"⟩, 29) := ⟨⟨by decide +kernel, by decide +kernel⟩, List.mem_of_getElem? (i := 681) (by decide +kernel), List.mem_of_getElem? (i := 853) (by decide +kernel), List.mem_of_getElem? (i := 854) (by decide +kernel)⟩
theorem lw_p34 : lw_okq (⟨"QueryStepsModel", "join", "(I)V"⟩, 29) := ⟨⟨by decide +kernel, by decide +kernel⟩, List.mem_of_getElem? (i := 681) (by decide +kernel), List.mem_of_getElem? (i := 857) (by decide +kernel), List.mem_of_getElem? (i := 858) (by decide +kernel)⟩
theorem lw_p35 : lw_okq (⟨"QueryStepsModel", "second", "()Z"⟩, 29) := ⟨⟨by decide +kernel, by decide +kernel⟩, List.mem_of_getElem? (i := 681) (by decide +kernel), List.mem_of_getElem? (i := 861) (by decide +kernel), List.mem_of_getElem? (i := 862) (by decide +kernel)⟩
theorem lw_p36 : lw_okq (⟨"QueryStepsModel", "count2", "()I"⟩, 29) := ⟨⟨by decide +kernel, by decide +kernel⟩, List.mem_of_getElem? (i := 681) (by decide +kernel), List.mem_of_getElem? (i := 865) (by decide +kernel), List.mem_of_getElem? (i := 866) (by decide +kernel)⟩
theorem lw_p37 : lw_okq (⟨"QueryStepsModel", "must2", "(II)Z"⟩, 29) := ⟨⟨by decide +kernel, by decide +kernel⟩, List.mem_of_getElem? (i := 681) (by decide +kernel), List.mem_of_getElem? (i := 869) (by decide +kernel), List.mem_of_getElem? (i := 870) (by decide +kernel)⟩
theorem lw_p38 : lw_okq (⟨"QueryStepsModel", "named2", "()Z"⟩, 29) := ⟨⟨by decide +kernel, by decide +kernel⟩, List.mem_of_getElem? (i := 681) (by decide +kernel), List.mem_of_getElem? (i := 873) (by decide +kernel), List.mem_of_getElem? (i := 874) (by decide +kernel)⟩
theorem lw_p39 : lw_okq (⟨"QueryStepsModel", "lay", "()V"⟩, 29) := ⟨⟨by decide +kernel, by decide +kernel⟩, List.mem_of_getElem? (i := 681) (by decide +kernel), List.mem_of_getElem? (i := 877) (by decide +kernel), List.mem_of_getElem? (i := 878) (by decide +kernel)⟩
theorem lw_p40 : lw_okq (⟨"QueryStepsModel", "distance", "(I)I"⟩, 29) := ⟨⟨by decide +kernel, by decide +kernel⟩, List.mem_of_getElem? (i := 681) (by decide +kernel), List.mem_of_getElem? (i := 889) (by decide +kernel), List.mem_of_getElem? (i := 890) (by decide +kernel)⟩
theorem lw_p41 : lw_okq (⟨"QueryStepsModel", "isSaved", "(I)Z"⟩, 29) := ⟨⟨by decide +kernel, by decide +kernel⟩, List.mem_of_getElem? (i := 681) (by decide +kernel), List.mem_of_getElem? (i := 910) (by decide +kernel), List.mem_of_getElem? (i := 911) (by decide +kernel)⟩
theorem lw_p42 : lw_okq (⟨"QueryStepsModel", "isBroken", "(I)Z"⟩, 29) := ⟨⟨by decide +kernel, by decide +kernel⟩, List.mem_of_getElem? (i := 681) (by decide +kernel), List.mem_of_getElem? (i := 914) (by decide +kernel), List.mem_of_getElem? (i := 915) (by decide +kernel)⟩
theorem lw_p43 : lw_okq (⟨"QueryStepsModel", "finds", "(IZ)I"⟩, 29) := ⟨⟨by decide +kernel, by decide +kernel⟩, List.mem_of_getElem? (i := 681) (by decide +kernel), List.mem_of_getElem? (i := 918) (by decide +kernel), List.mem_of_getElem? (i := 919) (by decide +kernel)⟩
theorem lw_p44 : lw_okq (⟨"QueryStepsModel", "meetsAll", "(II)Z"⟩, 29) := ⟨⟨by decide +kernel, by decide +kernel⟩, List.mem_of_getElem? (i := 681) (by decide +kernel), List.mem_of_getElem? (i := 922) (by decide +kernel), List.mem_of_getElem? (i := 923) (by decide +kernel)⟩
theorem lw_p45 : lw_okq (⟨"QueryStepsModel", "has", "(II)Z"⟩, 29) := ⟨⟨by decide +kernel, by decide +kernel⟩, List.mem_of_getElem? (i := 681) (by decide +kernel), List.mem_of_getElem? (i := 926) (by decide +kernel), List.mem_of_getElem? (i := 927) (by decide +kernel)⟩
def lw_privs_3 : List (MethodName × Nat) := [(⟨"QueryStepsModel", "add", "(IIII)V"⟩, 29), (⟨"QueryStepsModel", "settle", "(I)V"⟩, 29), (⟨"QueryStepsModel", "join", "(I)V"⟩, 29), (⟨"QueryStepsModel", "second", "()Z"⟩, 29), (⟨"QueryStepsModel", "count2", "()I"⟩, 29), (⟨"QueryStepsModel", "must2", "(II)Z"⟩, 29), (⟨"QueryStepsModel", "named2", "()Z"⟩, 29), (⟨"QueryStepsModel", "lay", "()V"⟩, 29), (⟨"QueryStepsModel", "distance", "(I)I"⟩, 29), (⟨"QueryStepsModel", "isSaved", "(I)Z"⟩, 29), (⟨"QueryStepsModel", "isBroken", "(I)Z"⟩, 29), (⟨"QueryStepsModel", "finds", "(IZ)I"⟩, 29), (⟨"QueryStepsModel", "meetsAll", "(II)Z"⟩, 29), (⟨"QueryStepsModel", "has", "(II)Z"⟩, 29)]
theorem lw_r3 : ∀ q ∈ lw_privs_3, lw_okq q := List.forall_mem_cons.mpr ⟨lw_p32, List.forall_mem_cons.mpr ⟨lw_p33, List.forall_mem_cons.mpr ⟨lw_p34, List.forall_mem_cons.mpr ⟨lw_p35, List.forall_mem_cons.mpr ⟨lw_p36, List.forall_mem_cons.mpr ⟨lw_p37, List.forall_mem_cons.mpr ⟨lw_p38, List.forall_mem_cons.mpr ⟨lw_p39, List.forall_mem_cons.mpr ⟨lw_p40, List.forall_mem_cons.mpr ⟨lw_p41, List.forall_mem_cons.mpr ⟨lw_p42, List.forall_mem_cons.mpr ⟨lw_p43, List.forall_mem_cons.mpr ⟨lw_p44, List.forall_mem_cons.mpr ⟨lw_p45, fun _ h => absurd h List.not_mem_nil⟩⟩⟩⟩⟩⟩⟩⟩⟩⟩⟩⟩⟩⟩
def lw_privs : List (MethodName × Nat) := lw_privs_1 ++ (lw_privs_2 ++ (lw_privs_3))
def lw_tbl : List Cond := k2_sels lw_privs ++ tables_1
theorem lw_privs_ok : ∀ q ∈ lw_privs, lw_okq q := by
  show ∀ q ∈ lw_privs_1 ++ (lw_privs_2 ++ (lw_privs_3)), lw_okq q
  exact List.forall_mem_append.mpr ⟨lw_r1, List.forall_mem_append.mpr ⟨lw_r2, lw_r3⟩⟩
/-! ===== names, by program out of javap's listing ===== -/
def R_Bt : String := "QuerySteps$BetweenReader"
def T_Bt : u_T := fun k => match k with
  | 0 => ("QuerySteps$Reader", "source", "LQuerySteps$Source;", true)
  | 1 => ("QuerySteps$Reader", "draft", "LQuerySteps$Tree;", true)
  | 2 => ("QuerySteps$Reader", "indexes", "LQuerySteps$Indexes;", true)
  | _ => ("QuerySteps$Reader", "unknown", "LQuerySteps$Unknown;", true)
def ty_Bt : Nat → FieldType := fun k => match k with
  | 0 => .object "QuerySteps$Source"
  | 1 => .object "QuerySteps$Tree"
  | 2 => .object "QuerySteps$Indexes"
  | _ => .object "QuerySteps$Unknown"
theorem nm_Bt : ∀ a, a < 4 → ∀ b, b < 4 → a ≠ b → (T_Bt a).2.1 ≠ (T_Bt b).2.1 := by decide +kernel
theorem ok_Bt : ∀ k, k < 4 → parseFieldDescriptor (T_Bt k).2.2.1 = some (ty_Bt k) := by decide +kernel
def R_Fr : String := "QuerySteps$FrontReader"
def T_Fr : u_T := fun k => match k with
  | 0 => ("QuerySteps$Reader", "source", "LQuerySteps$Source;", true)
  | 1 => ("QuerySteps$Reader", "draft", "LQuerySteps$Tree;", true)
  | 2 => ("QuerySteps$Reader", "indexes", "LQuerySteps$Indexes;", true)
  | _ => ("QuerySteps$Reader", "unknown", "LQuerySteps$Unknown;", true)
def ty_Fr : Nat → FieldType := fun k => match k with
  | 0 => .object "QuerySteps$Source"
  | 1 => .object "QuerySteps$Tree"
  | 2 => .object "QuerySteps$Indexes"
  | _ => .object "QuerySteps$Unknown"
theorem nm_Fr : ∀ a, a < 4 → ∀ b, b < 4 → a ≠ b → (T_Fr a).2.1 ≠ (T_Fr b).2.1 := by decide +kernel
theorem ok_Fr : ∀ k, k < 4 → parseFieldDescriptor (T_Fr k).2.2.1 = some (ty_Fr k) := by decide +kernel
def R_Hi : String := "QuerySteps$Hits"
def T_Hi : u_T := fun k => match k with
  | 0 => ("QuerySteps$Hits", "numbers", "[I", true)
  | _ => ("QuerySteps$Hits", "count", "I", false)
def ty_Hi : Nat → FieldType := fun k => match k with
  | 0 => .array .int
  | _ => .int
theorem nm_Hi : ∀ a, a < 2 → ∀ b, b < 2 → a ≠ b → (T_Hi a).2.1 ≠ (T_Hi b).2.1 := by decide +kernel
theorem ok_Hi : ∀ k, k < 2 → parseFieldDescriptor (T_Hi k).2.2.1 = some (ty_Hi k) := by decide +kernel
def R_Ix : String := "QuerySteps$Indexes"
def T_Ix : u_T := fun k => match k with
  | 0 => ("QuerySteps$Indexes", "letters", "[I", true)
  | 1 => ("QuerySteps$Indexes", "lengths", "[I", true)
  | 2 => ("QuerySteps$Indexes", "isOn", "[Z", true)
  | 3 => ("QuerySteps$Indexes", "changes", "[I", true)
  | _ => ("QuerySteps$Indexes", "count", "I", false)
def ty_Ix : Nat → FieldType := fun k => match k with
  | 0 => .array .int
  | 1 => .array .int
  | 2 => .array .boolean
  | 3 => .array .int
  | _ => .int
theorem nm_Ix : ∀ a, a < 5 → ∀ b, b < 5 → a ≠ b → (T_Ix a).2.1 ≠ (T_Ix b).2.1 := by decide +kernel
theorem ok_Ix : ∀ k, k < 5 → parseFieldDescriptor (T_Ix k).2.2.1 = some (ty_Ix k) := by decide +kernel
def R_Qu : String := "QuerySteps$Question"
def T_Qu : u_T := fun k => match k with
  | 0 => ("QuerySteps$Question", "tree", "LQuerySteps$Tree;", true)
  | 1 => ("QuerySteps$Question", "isKept", "Z", false)
  | 2 => ("QuerySteps$Question", "isLookedAt", "Z", false)
  | _ => ("QuerySteps$Question", "latestMoment", "J", false)
def ty_Qu : Nat → FieldType := fun k => match k with
  | 0 => .object "QuerySteps$Tree"
  | 1 => .boolean
  | 2 => .boolean
  | _ => .long
theorem nm_Qu : ∀ a, a < 4 → ∀ b, b < 4 → a ≠ b → (T_Qu a).2.1 ≠ (T_Qu b).2.1 := by decide +kernel
theorem ok_Qu : ∀ k, k < 4 → parseFieldDescriptor (T_Qu k).2.2.1 = some (ty_Qu k) := by decide +kernel
def R_Rc : String := "QuerySteps$Records"
def T_Rc : u_T := fun k => match k with
  | 0 => ("QuerySteps$Records", "moments", "[J", true)
  | 1 => ("QuerySteps$Records", "entryCounts", "[I", true)
  | 2 => ("QuerySteps$Records", "entryIndexes", "[I", true)
  | 3 => ("QuerySteps$Records", "entryValues", "[I", true)
  | 4 => ("QuerySteps$Records", "met", "[Z", true)
  | _ => ("QuerySteps$Records", "count", "I", false)
def ty_Rc : Nat → FieldType := fun k => match k with
  | 0 => .array .long
  | 1 => .array .int
  | 2 => .array .int
  | 3 => .array .int
  | 4 => .array .boolean
  | _ => .int
theorem nm_Rc : ∀ a, a < 6 → ∀ b, b < 6 → a ≠ b → (T_Rc a).2.1 ≠ (T_Rc b).2.1 := by decide +kernel
theorem ok_Rc : ∀ k, k < 6 → parseFieldDescriptor (T_Rc k).2.2.1 = some (ty_Rc k) := by decide +kernel
def R_So : String := "QuerySteps$Source"
def T_So : u_T := fun k => match k with
  | 0 => ("QuerySteps$Source", "signs", "[I", true)
  | 1 => ("QuerySteps$Source", "length", "I", false)
  | _ => ("QuerySteps$Source", "place", "I", false)
def ty_So : Nat → FieldType := fun k => match k with
  | 0 => .array .int
  | 1 => .int
  | _ => .int
theorem nm_So : ∀ a, a < 3 → ∀ b, b < 3 → a ≠ b → (T_So a).2.1 ≠ (T_So b).2.1 := by decide +kernel
theorem ok_So : ∀ k, k < 3 → parseFieldDescriptor (T_So k).2.2.1 = some (ty_So k) := by decide +kernel
def R_Tr : String := "QuerySteps$Tree"
def T_Tr : u_T := fun k => match k with
  | 0 => ("QuerySteps$Tree", "sorts", "[I", true)
  | 1 => ("QuerySteps$Tree", "indexNumbers", "[I", true)
  | 2 => ("QuerySteps$Tree", "leasts", "[I", true)
  | 3 => ("QuerySteps$Tree", "greatests", "[I", true)
  | _ => ("QuerySteps$Tree", "size", "I", false)
def ty_Tr : Nat → FieldType := fun k => match k with
  | 0 => .array .int
  | 1 => .array .int
  | 2 => .array .int
  | 3 => .array .int
  | _ => .int
theorem nm_Tr : ∀ a, a < 5 → ∀ b, b < 5 → a ≠ b → (T_Tr a).2.1 ≠ (T_Tr b).2.1 := by decide +kernel
theorem ok_Tr : ∀ k, k < 5 → parseFieldDescriptor (T_Tr k).2.2.1 = some (ty_Tr k) := by decide +kernel
def R_Un : String := "QuerySteps$Unknown"
def T_Un : u_T := fun k => match k with
  | 0 => ("QuerySteps$Unknown", "letters", "[I", true)
  | _ => ("QuerySteps$Unknown", "length", "I", false)
def ty_Un : Nat → FieldType := fun k => match k with
  | 0 => .array .int
  | _ => .int
theorem nm_Un : ∀ a, a < 2 → ∀ b, b < 2 → a ≠ b → (T_Un a).2.1 ≠ (T_Un b).2.1 := by decide +kernel
theorem ok_Un : ∀ k, k < 2 → parseFieldDescriptor (T_Un k).2.2.1 = some (ty_Un k) := by decide +kernel
def R_QS : String := "QuerySteps"
def T_QS : u_T := fun k => match k with
  | 0 => ("QuerySteps", "source", "LQuerySteps$Source;", true)
  | 1 => ("QuerySteps", "indexes", "LQuerySteps$Indexes;", true)
  | 2 => ("QuerySteps", "unknown", "LQuerySteps$Unknown;", true)
  | 3 => ("QuerySteps", "draft", "LQuerySteps$Tree;", true)
  | 4 => ("QuerySteps", "tree", "LQuerySteps$Tree;", true)
  | 5 => ("QuerySteps", "between", "LQuerySteps$Reader;", true)
  | 6 => ("QuerySteps", "front", "LQuerySteps$Reader;", true)
  | 7 => ("QuerySteps", "records", "LQuerySteps$Records;", true)
  | 8 => ("QuerySteps", "questions", "[LQuerySteps$Question;", true)
  | _ => ("QuerySteps", "hits", "LQuerySteps$Hits;", true)
def ty_QS : Nat → FieldType := fun k => match k with
  | 0 => .object "QuerySteps$Source"
  | 1 => .object "QuerySteps$Indexes"
  | 2 => .object "QuerySteps$Unknown"
  | 3 => .object "QuerySteps$Tree"
  | 4 => .object "QuerySteps$Tree"
  | 5 => .object "QuerySteps$Reader"
  | 6 => .object "QuerySteps$Reader"
  | 7 => .object "QuerySteps$Records"
  | 8 => .array (.object "QuerySteps$Question")
  | _ => .object "QuerySteps$Hits"
theorem nm_QS : ∀ a, a < 10 → ∀ b, b < 10 → a ≠ b → (T_QS a).2.1 ≠ (T_QS b).2.1 := by decide +kernel
theorem ok_QS : ∀ k, k < 10 → parseFieldDescriptor (T_QS k).2.2.1 = some (ty_QS k) := by decide +kernel
def R_Mo : String := "QueryStepsModel"
def T_Mo : u_T := fun k => match k with
  | 0 => ("QueryStepsModel", "thrown", "I", false)
  | 1 => ("QueryStepsModel", "said", "[B", true)
  | 2 => ("QueryStepsModel", "size", "I", false)
  | 3 => ("QueryStepsModel", "at", "I", false)
  | 4 => ("QueryStepsModel", "wrong", "I", false)
  | 5 => ("QueryStepsModel", "names", "[B", true)
  | 6 => ("QueryStepsModel", "nameSizes", "[I", true)
  | 7 => ("QueryStepsModel", "off", "[Z", true)
  | 8 => ("QueryStepsModel", "indexes", "I", false)
  | 9 => ("QueryStepsModel", "strange", "[B", true)
  | 10 => ("QueryStepsModel", "strangeSize", "I", false)
  | 11 => ("QueryStepsModel", "back", "[I", true)
  | 12 => ("QueryStepsModel", "begins", "[I", true)
  | 13 => ("QueryStepsModel", "backCount", "I", false)
  | 14 => ("QueryStepsModel", "waits", "[I", true)
  | 15 => ("QueryStepsModel", "waitCount", "I", false)
  | 16 => ("QueryStepsModel", "trees", "[I", true)
  | 17 => ("QueryStepsModel", "treeSizes", "[I", true)
  | 18 => ("QueryStepsModel", "looked", "[Z", true)
  | 19 => ("QueryStepsModel", "seen", "[J", true)
  | 20 => ("QueryStepsModel", "records", "I", false)
  | 21 => ("QueryStepsModel", "moments", "[J", true)
  | 22 => ("QueryStepsModel", "entries", "[I", true)
  | 23 => ("QueryStepsModel", "entryCounts", "[I", true)
  | 24 => ("QueryStepsModel", "meets", "[Z", true)
  | 25 => ("QueryStepsModel", "hits", "[I", true)
  | 26 => ("QueryStepsModel", "hitCount", "I", false)
  | 27 => ("QueryStepsModel", "far", "[I", true)
  | _ => ("QueryStepsModel", "farNext", "[I", true)
def ty_Mo : Nat → FieldType := fun k => match k with
  | 0 => .int
  | 1 => .array .byte
  | 2 => .int
  | 3 => .int
  | 4 => .int
  | 5 => .array .byte
  | 6 => .array .int
  | 7 => .array .boolean
  | 8 => .int
  | 9 => .array .byte
  | 10 => .int
  | 11 => .array .int
  | 12 => .array .int
  | 13 => .int
  | 14 => .array .int
  | 15 => .int
  | 16 => .array .int
  | 17 => .array .int
  | 18 => .array .boolean
  | 19 => .array .long
  | 20 => .int
  | 21 => .array .long
  | 22 => .array .int
  | 23 => .array .int
  | 24 => .array .boolean
  | 25 => .array .int
  | 26 => .int
  | 27 => .array .int
  | _ => .array .int
theorem nm_Mo : ∀ a, a < 29 → ∀ b, b < 29 → a ≠ b → (T_Mo a).2.1 ≠ (T_Mo b).2.1 := by decide +kernel
theorem ok_Mo : ∀ k, k < 29 → parseFieldDescriptor (T_Mo k).2.2.1 = some (ty_Mo k) := by decide +kernel
def R_Rd : String := "QuerySteps$Reader"
def R_La : String := "QueryStepsLaw"
abbrev vwCl : List vw_C := [(R_Bt, T_Bt, 4), (R_Fr, T_Fr, 4), (R_Hi, T_Hi, 2), (R_Ix, T_Ix, 5), (R_Qu, T_Qu, 4), (R_Rc, T_Rc, 6), (R_So, T_So, 3), (R_Tr, T_Tr, 5), (R_Un, T_Un, 2), (R_QS, T_QS, 10), (R_Mo, T_Mo, 29)]
/-- the tables' words that a callee may take over -/
def zTB : List Cond := lw_tbl.filter goodWord
theorem zTB_in {w : Cond} (h : w ∈ zTB) : w ∈ lw_tbl := (List.mem_filter.mp h).1
theorem zTB_of {w : Cond} (i : Nat) (h : lw_tbl[i]? = some w) (hg : goodWord w = true) : w ∈ zTB := List.mem_filter.mpr ⟨List.mem_of_getElem? h, hg⟩
theorem zTB_good {w : Cond} (h : w ∈ zTB) : (w.onTables && w.keeps) = true ∨ ∃ ty, w = .arrayClass ty := good_of_word (List.mem_filter.mp h).2
abbrev c_QS_init : ByteArray := prog_1_method_1_code
def y_QS_init : MethodName := ⟨"QuerySteps", "<init>", "()V"⟩
abbrev c_QS_sign : ByteArray := prog_1_method_2_code
def y_QS_sign : MethodName := ⟨"QuerySteps", "sign", "(I)V"⟩
abbrev c_QS_index : ByteArray := prog_1_method_3_code
def y_QS_index : MethodName := ⟨"QuerySteps", "index", "()I"⟩
abbrev c_QS_on : ByteArray := prog_1_method_4_code
def y_QS_on : MethodName := ⟨"QuerySteps", "on", "(IZ)Z"⟩
abbrev c_QS_read : ByteArray := prog_1_method_5_code
def y_QS_read : MethodName := ⟨"QuerySteps", "read", "(I)I"⟩
abbrev c_QS_node : ByteArray := prog_1_method_6_code
def y_QS_node : MethodName := ⟨"QuerySteps", "node", "(II)I"⟩
abbrev c_QS_near : ByteArray := prog_1_method_7_code
def y_QS_near : MethodName := ⟨"QuerySteps", "near", "()I"⟩
abbrev c_QS_record : ByteArray := prog_1_method_8_code
def y_QS_record : MethodName := ⟨"QuerySteps", "record", "(J)I"⟩
abbrev c_QS_entry : ByteArray := prog_1_method_9_code
def y_QS_entry : MethodName := ⟨"QuerySteps", "entry", "(III)I"⟩
abbrev c_QS_save : ByteArray := prog_1_method_10_code
def y_QS_save : MethodName := ⟨"QuerySteps", "save", "(I)I"⟩
abbrev c_QS_run : ByteArray := prog_1_method_11_code
def y_QS_run : MethodName := ⟨"QuerySteps", "run", "(I)I"⟩
abbrev c_QS_alert : ByteArray := prog_1_method_12_code
def y_QS_alert : MethodName := ⟨"QuerySteps", "alert", "(I)I"⟩
abbrev c_QS_at : ByteArray := prog_1_method_13_code
def y_QS_at : MethodName := ⟨"QuerySteps", "at", "(I)I"⟩
abbrev c_QS_same : ByteArray := prog_1_method_14_code
def y_QS_same : MethodName := ⟨"QuerySteps", "same", "(II)Z"⟩
abbrev c_QS_broken : ByteArray := prog_1_method_15_code
def y_QS_broken : MethodName := ⟨"QuerySteps", "broken", "()I"⟩
abbrev c_QS_isSaved : ByteArray := prog_1_method_16_code
def y_QS_isSaved : MethodName := ⟨"QuerySteps", "isSaved", "(I)Z"⟩
abbrev c_QS_canRun : ByteArray := prog_1_method_17_code
def y_QS_canRun : MethodName := ⟨"QuerySteps", "canRun", "(I)Z"⟩
abbrev c_Mo_init : ByteArray := prog_13_method_1_code
def y_Mo_init : MethodName := ⟨"QueryStepsModel", "<init>", "()V"⟩
abbrev c_Mo_sign : ByteArray := prog_13_method_3_code
def y_Mo_sign : MethodName := ⟨"QueryStepsModel", "sign", "(I)V"⟩
abbrev c_Mo_look : ByteArray := prog_13_method_4_code
def y_Mo_look : MethodName := ⟨"QueryStepsModel", "look", "(I)I"⟩
abbrev c_Mo_isLetter : ByteArray := prog_13_method_5_code
def y_Mo_isLetter : MethodName := ⟨"QueryStepsModel", "isLetter", "(I)Z"⟩
abbrev c_Mo_isDigit : ByteArray := prog_13_method_6_code
def y_Mo_isDigit : MethodName := ⟨"QueryStepsModel", "isDigit", "(I)Z"⟩
abbrev c_Mo_letters : ByteArray := prog_13_method_7_code
def y_Mo_letters : MethodName := ⟨"QueryStepsModel", "letters", "(I)I"⟩
abbrev c_Mo_named : ByteArray := prog_13_method_8_code
def y_Mo_named : MethodName := ⟨"QueryStepsModel", "named", "(II)I"⟩
abbrev c_Mo_word : ByteArray := prog_13_method_9_code
def y_Mo_word : MethodName := ⟨"QueryStepsModel", "word", "(II)I"⟩
abbrev c_Mo_index : ByteArray := prog_13_method_10_code
def y_Mo_index : MethodName := ⟨"QueryStepsModel", "index", "()I"⟩
abbrev c_Mo_on : ByteArray := prog_13_method_11_code
def y_Mo_on : MethodName := ⟨"QueryStepsModel", "on", "(IZ)Z"⟩
abbrev c_Mo_bad : ByteArray := prog_13_method_12_code
def y_Mo_bad : MethodName := ⟨"QueryStepsModel", "bad", "(I)Z"⟩
abbrev c_Mo_must : ByteArray := prog_13_method_13_code
def y_Mo_must : MethodName := ⟨"QueryStepsModel", "must", "(I)Z"⟩
abbrev c_Mo_must2 : ByteArray := prog_13_method_14_code
def y_Mo_must2 : MethodName := ⟨"QueryStepsModel", "must2", "(II)Z"⟩
abbrev c_Mo_value : ByteArray := prog_13_method_15_code
def y_Mo_value : MethodName := ⟨"QueryStepsModel", "value", "()I"⟩
abbrev c_Mo_name : ByteArray := prog_13_method_16_code
def y_Mo_name : MethodName := ⟨"QueryStepsModel", "name", "()I"⟩
abbrev c_Mo_add : ByteArray := prog_13_method_17_code
def y_Mo_add : MethodName := ⟨"QueryStepsModel", "add", "(IIII)V"⟩
abbrev c_Mo_join : ByteArray := prog_13_method_18_code
def y_Mo_join : MethodName := ⟨"QueryStepsModel", "join", "(I)V"⟩
abbrev c_Mo_range : ByteArray := prog_13_method_19_code
def y_Mo_range : MethodName := ⟨"QueryStepsModel", "range", "(II)Z"⟩
abbrev c_Mo_leaf : ByteArray := prog_13_method_20_code
def y_Mo_leaf : MethodName := ⟨"QueryStepsModel", "leaf", "()Z"⟩
abbrev c_Mo_count : ByteArray := prog_13_method_21_code
def y_Mo_count : MethodName := ⟨"QueryStepsModel", "count", "()I"⟩
abbrev c_Mo_depth : ByteArray := prog_13_method_22_code
def y_Mo_depth : MethodName := ⟨"QueryStepsModel", "depth", "()I"⟩
abbrev c_Mo_settle : ByteArray := prog_13_method_23_code
def y_Mo_settle : MethodName := ⟨"QueryStepsModel", "settle", "(I)V"⟩
abbrev c_Mo_first : ByteArray := prog_13_method_24_code
def y_Mo_first : MethodName := ⟨"QueryStepsModel", "first", "()Z"⟩
abbrev c_Mo_named2 : ByteArray := prog_13_method_25_code
def y_Mo_named2 : MethodName := ⟨"QueryStepsModel", "named2", "()Z"⟩
abbrev c_Mo_second : ByteArray := prog_13_method_26_code
def y_Mo_second : MethodName := ⟨"QueryStepsModel", "second", "()Z"⟩
abbrev c_Mo_count2 : ByteArray := prog_13_method_27_code
def y_Mo_count2 : MethodName := ⟨"QueryStepsModel", "count2", "()I"⟩
abbrev c_Mo_lay : ByteArray := prog_13_method_28_code
def y_Mo_lay : MethodName := ⟨"QueryStepsModel", "lay", "()V"⟩
abbrev c_Mo_read : ByteArray := prog_13_method_29_code
def y_Mo_read : MethodName := ⟨"QueryStepsModel", "read", "(I)I"⟩
abbrev c_Mo_node : ByteArray := prog_13_method_30_code
def y_Mo_node : MethodName := ⟨"QueryStepsModel", "node", "(II)I"⟩
abbrev c_Mo_distance : ByteArray := prog_13_method_31_code
def y_Mo_distance : MethodName := ⟨"QueryStepsModel", "distance", "(I)I"⟩
abbrev c_Mo_near : ByteArray := prog_13_method_32_code
def y_Mo_near : MethodName := ⟨"QueryStepsModel", "near", "()I"⟩
abbrev c_Mo_record : ByteArray := prog_13_method_33_code
def y_Mo_record : MethodName := ⟨"QueryStepsModel", "record", "(J)I"⟩
abbrev c_Mo_entry : ByteArray := prog_13_method_34_code
def y_Mo_entry : MethodName := ⟨"QueryStepsModel", "entry", "(III)I"⟩
abbrev c_Mo_beginsWith : ByteArray := prog_13_method_35_code
def y_Mo_beginsWith : MethodName := ⟨"QueryStepsModel", "beginsWith", "(II)Z"⟩
abbrev c_Mo_has : ByteArray := prog_13_method_36_code
def y_Mo_has : MethodName := ⟨"QueryStepsModel", "has", "(II)Z"⟩
abbrev c_Mo_meetsAll : ByteArray := prog_13_method_37_code
def y_Mo_meetsAll : MethodName := ⟨"QueryStepsModel", "meetsAll", "(II)Z"⟩
abbrev c_Mo_isSaved : ByteArray := prog_13_method_38_code
def y_Mo_isSaved : MethodName := ⟨"QueryStepsModel", "isSaved", "(I)Z"⟩
abbrev c_Mo_isBroken : ByteArray := prog_13_method_39_code
def y_Mo_isBroken : MethodName := ⟨"QueryStepsModel", "isBroken", "(I)Z"⟩
abbrev c_Mo_save : ByteArray := prog_13_method_40_code
def y_Mo_save : MethodName := ⟨"QueryStepsModel", "save", "(I)I"⟩
abbrev c_Mo_finds : ByteArray := prog_13_method_41_code
def y_Mo_finds : MethodName := ⟨"QueryStepsModel", "finds", "(IZ)I"⟩
abbrev c_Mo_run : ByteArray := prog_13_method_42_code
def y_Mo_run : MethodName := ⟨"QueryStepsModel", "run", "(I)I"⟩
abbrev c_Mo_alert : ByteArray := prog_13_method_43_code
def y_Mo_alert : MethodName := ⟨"QueryStepsModel", "alert", "(I)I"⟩
abbrev c_Mo_at : ByteArray := prog_13_method_44_code
def y_Mo_at : MethodName := ⟨"QueryStepsModel", "at", "(I)I"⟩
abbrev c_Mo_same : ByteArray := prog_13_method_45_code
def y_Mo_same : MethodName := ⟨"QueryStepsModel", "same", "(II)Z"⟩
abbrev c_Mo_broken : ByteArray := prog_13_method_46_code
def y_Mo_broken : MethodName := ⟨"QueryStepsModel", "broken", "()I"⟩
abbrev c_Bt_init : ByteArray := prog_2_method_1_code
def y_Bt_init : MethodName := ⟨"QuerySteps$BetweenReader", "<init>", "(LQuerySteps$Source;LQuerySteps$Indexes;LQuerySteps$Unknown;LQuerySteps$Tree;)V"⟩
abbrev c_Bt_takesTree : ByteArray := prog_2_method_2_code
def y_Bt_takesTree : MethodName := ⟨"QuerySteps$BetweenReader", "takesTree", "(I)Z"⟩
abbrev c_Bt_takeJoint : ByteArray := prog_2_method_3_code
def y_Bt_takeJoint : MethodName := ⟨"QuerySteps$BetweenReader", "takeJoint", "(II)I"⟩
abbrev c_Bt_takesTerm : ByteArray := prog_2_method_4_code
def y_Bt_takesTerm : MethodName := ⟨"QuerySteps$BetweenReader", "takesTerm", "(I)Z"⟩
abbrev c_Bt_takesValues : ByteArray := prog_2_method_5_code
def y_Bt_takesValues : MethodName := ⟨"QuerySteps$BetweenReader", "takesValues", "(I)Z"⟩
abbrev c_Fr_init : ByteArray := prog_3_method_1_code
def y_Fr_init : MethodName := ⟨"QuerySteps$FrontReader", "<init>", "(LQuerySteps$Source;LQuerySteps$Indexes;LQuerySteps$Unknown;LQuerySteps$Tree;)V"⟩
abbrev c_Fr_takesTree : ByteArray := prog_3_method_2_code
def y_Fr_takesTree : MethodName := ⟨"QuerySteps$FrontReader", "takesTree", "(I)Z"⟩
abbrev c_Fr_takesBranch : ByteArray := prog_3_method_3_code
def y_Fr_takesBranch : MethodName := ⟨"QuerySteps$FrontReader", "takesBranch", "(I)Z"⟩
abbrev c_Fr_takesLeaf : ByteArray := prog_3_method_4_code
def y_Fr_takesLeaf : MethodName := ⟨"QuerySteps$FrontReader", "takesLeaf", "(I)Z"⟩
abbrev c_Hi_init : ByteArray := prog_4_method_1_code
def y_Hi_init : MethodName := ⟨"QuerySteps$Hits", "<init>", "()V"⟩
abbrev c_Hi_numberAt : ByteArray := prog_4_method_2_code
def y_Hi_numberAt : MethodName := ⟨"QuerySteps$Hits", "numberAt", "(I)I"⟩
abbrev c_Hi_gather : ByteArray := prog_4_method_3_code
def y_Hi_gather : MethodName := ⟨"QuerySteps$Hits", "gather", "(LQuerySteps$Records;LQuerySteps$Question;Z)I"⟩
abbrev c_Hi_insert : ByteArray := prog_4_method_4_code
def y_Hi_insert : MethodName := ⟨"QuerySteps$Hits", "insert", "(LQuerySteps$Records;I)V"⟩
abbrev c_Ix_init : ByteArray := prog_5_method_1_code
def y_Ix_init : MethodName := ⟨"QuerySteps$Indexes", "<init>", "()V"⟩
abbrev c_Ix_has : ByteArray := prog_5_method_2_code
def y_Ix_has : MethodName := ⟨"QuerySteps$Indexes", "has", "(I)Z"⟩
abbrev c_Ix_turn : ByteArray := prog_5_method_3_code
def y_Ix_turn : MethodName := ⟨"QuerySteps$Indexes", "turn", "(IZ)Z"⟩
abbrev c_Ix_isBroken : ByteArray := prog_5_method_4_code
def y_Ix_isBroken : MethodName := ⟨"QuerySteps$Indexes", "isBroken", "(LQuerySteps$Tree;)Z"⟩
abbrev c_Ix_register : ByteArray := prog_5_method_5_code
def y_Ix_register : MethodName := ⟨"QuerySteps$Indexes", "register", "(LQuerySteps$Source;)I"⟩
abbrev c_Ix_find : ByteArray := prog_5_method_6_code
def y_Ix_find : MethodName := ⟨"QuerySteps$Indexes", "find", "(LQuerySteps$Source;I)I"⟩
abbrev c_Ix_isNameOf : ByteArray := prog_5_method_7_code
def y_Ix_isNameOf : MethodName := ⟨"QuerySteps$Indexes", "isNameOf", "(ILQuerySteps$Source;I)Z"⟩
abbrev c_Ix_lengthOf : ByteArray := prog_5_method_8_code
def y_Ix_lengthOf : MethodName := ⟨"QuerySteps$Indexes", "lengthOf", "(I)I"⟩
abbrev c_Ix_letterOf : ByteArray := prog_5_method_9_code
def y_Ix_letterOf : MethodName := ⟨"QuerySteps$Indexes", "letterOf", "(II)I"⟩
abbrev c_Ix_nearest : ByteArray := prog_5_method_10_code
def y_Ix_nearest : MethodName := ⟨"QuerySteps$Indexes", "nearest", "(LQuerySteps$Unknown;)I"⟩
abbrev c_Ix_changesTo : ByteArray := prog_5_method_11_code
def y_Ix_changesTo : MethodName := ⟨"QuerySteps$Indexes", "changesTo", "(ILQuerySteps$Unknown;)I"⟩
abbrev c_Qu_init : ByteArray := prog_6_method_1_code
def y_Qu_init : MethodName := ⟨"QuerySteps$Question", "<init>", "()V"⟩
abbrev c_Qu_keep : ByteArray := prog_6_method_2_code
def y_Qu_keep : MethodName := ⟨"QuerySteps$Question", "keep", "(LQuerySteps$Tree;)V"⟩
abbrev c_Qu_lookedUpTo : ByteArray := prog_6_method_3_code
def y_Qu_lookedUpTo : MethodName := ⟨"QuerySteps$Question", "lookedUpTo", "(J)V"⟩
abbrev c_Qu_isNew : ByteArray := prog_6_method_4_code
def y_Qu_isNew : MethodName := ⟨"QuerySteps$Question", "isNew", "(J)Z"⟩
abbrev c_Rd_init : ByteArray := prog_7_method_1_code
def y_Rd_init : MethodName := ⟨"QuerySteps$Reader", "<init>", "(LQuerySteps$Source;LQuerySteps$Indexes;LQuerySteps$Unknown;LQuerySteps$Tree;)V"⟩
abbrev c_Rd_takeName : ByteArray := prog_7_method_3_code
def y_Rd_takeName : MethodName := ⟨"QuerySteps$Reader", "takeName", "()I"⟩
abbrev c_Rd_takesGreatest : ByteArray := prog_7_method_4_code
def y_Rd_takesGreatest : MethodName := ⟨"QuerySteps$Reader", "takesGreatest", "(II)Z"⟩
abbrev c_Rc_init : ByteArray := prog_8_method_1_code
def y_Rc_init : MethodName := ⟨"QuerySteps$Records", "<init>", "()V"⟩
abbrev c_Rc_size : ByteArray := prog_8_method_2_code
def y_Rc_size : MethodName := ⟨"QuerySteps$Records", "size", "()I"⟩
abbrev c_Rc_has : ByteArray := prog_8_method_3_code
def y_Rc_has : MethodName := ⟨"QuerySteps$Records", "has", "(I)Z"⟩
abbrev c_Rc_momentOf : ByteArray := prog_8_method_4_code
def y_Rc_momentOf : MethodName := ⟨"QuerySteps$Records", "momentOf", "(I)J"⟩
abbrev c_Rc_add : ByteArray := prog_8_method_5_code
def y_Rc_add : MethodName := ⟨"QuerySteps$Records", "add", "(J)I"⟩
abbrev c_Rc_addEntry : ByteArray := prog_8_method_6_code
def y_Rc_addEntry : MethodName := ⟨"QuerySteps$Records", "addEntry", "(III)I"⟩
abbrev c_Rc_isMet : ByteArray := prog_8_method_7_code
def y_Rc_isMet : MethodName := ⟨"QuerySteps$Records", "isMet", "(LQuerySteps$Tree;I)Z"⟩
abbrev c_Rc_isJoinedMet : ByteArray := prog_8_method_8_code
def y_Rc_isJoinedMet : MethodName := ⟨"QuerySteps$Records", "isJoinedMet", "(IZZ)Z"⟩
abbrev c_Rc_isSimpleMet : ByteArray := prog_8_method_9_code
def y_Rc_isSimpleMet : MethodName := ⟨"QuerySteps$Records", "isSimpleMet", "(LQuerySteps$Tree;II)Z"⟩
abbrev c_Rc_isValueMet : ByteArray := prog_8_method_10_code
def y_Rc_isValueMet : MethodName := ⟨"QuerySteps$Records", "isValueMet", "(LQuerySteps$Tree;II)Z"⟩
abbrev c_Rc_isBeginning : ByteArray := prog_8_method_11_code
def y_Rc_isBeginning : MethodName := ⟨"QuerySteps$Records", "isBeginning", "(II)Z"⟩
abbrev c_So_init : ByteArray := prog_9_method_1_code
def y_So_init : MethodName := ⟨"QuerySteps$Source", "<init>", "()V"⟩
abbrev c_So_collect : ByteArray := prog_9_method_2_code
def y_So_collect : MethodName := ⟨"QuerySteps$Source", "collect", "(I)V"⟩
abbrev c_So_clear : ByteArray := prog_9_method_3_code
def y_So_clear : MethodName := ⟨"QuerySteps$Source", "clear", "()V"⟩
abbrev c_So_length : ByteArray := prog_9_method_4_code
def y_So_length : MethodName := ⟨"QuerySteps$Source", "length", "()I"⟩
abbrev c_So_place : ByteArray := prog_9_method_5_code
def y_So_place : MethodName := ⟨"QuerySteps$Source", "place", "()I"⟩
abbrev c_So_moveTo : ByteArray := prog_9_method_6_code
def y_So_moveTo : MethodName := ⟨"QuerySteps$Source", "moveTo", "(I)V"⟩
abbrev c_So_isAtEnd : ByteArray := prog_9_method_7_code
def y_So_isAtEnd : MethodName := ⟨"QuerySteps$Source", "isAtEnd", "()Z"⟩
abbrev c_So_signAt : ByteArray := prog_9_method_8_code
def y_So_signAt : MethodName := ⟨"QuerySteps$Source", "signAt", "(I)I"⟩
abbrev c_So_take : ByteArray := prog_9_method_9_code
def y_So_take : MethodName := ⟨"QuerySteps$Source", "take", "(I)Z"⟩
abbrev c_So_rowEnd : ByteArray := prog_9_method_10_code
def y_So_rowEnd : MethodName := ⟨"QuerySteps$Source", "rowEnd", "()I"⟩
abbrev c_So_takeValue : ByteArray := prog_9_method_11_code
def y_So_takeValue : MethodName := ⟨"QuerySteps$Source", "takeValue", "()I"⟩
abbrev c_So_joiningSort : ByteArray := prog_9_method_12_code
def y_So_joiningSort : MethodName := ⟨"QuerySteps$Source", "joiningSort", "(I)I"⟩
abbrev c_So_spells : ByteArray := prog_9_method_13_code
def y_So_spells : MethodName := ⟨"QuerySteps$Source", "spells", "(Ljava/lang/String;I)Z"⟩
abbrev c_So_isSmallLetter : ByteArray := prog_9_method_14_code
def y_So_isSmallLetter : MethodName := ⟨"QuerySteps$Source", "isSmallLetter", "(I)Z"⟩
abbrev c_So_isDigit : ByteArray := prog_9_method_15_code
def y_So_isDigit : MethodName := ⟨"QuerySteps$Source", "isDigit", "(I)Z"⟩
abbrev c_Tr_init : ByteArray := prog_10_method_1_code
def y_Tr_init : MethodName := ⟨"QuerySteps$Tree", "<init>", "()V"⟩
abbrev c_Tr_clear : ByteArray := prog_10_method_2_code
def y_Tr_clear : MethodName := ⟨"QuerySteps$Tree", "clear", "()V"⟩
abbrev c_Tr_size : ByteArray := prog_10_method_3_code
def y_Tr_size : MethodName := ⟨"QuerySteps$Tree", "size", "()I"⟩
abbrev c_Tr_isFull : ByteArray := prog_10_method_4_code
def y_Tr_isFull : MethodName := ⟨"QuerySteps$Tree", "isFull", "()Z"⟩
abbrev c_Tr_has : ByteArray := prog_10_method_5_code
def y_Tr_has : MethodName := ⟨"QuerySteps$Tree", "has", "(I)Z"⟩
abbrev c_Tr_sortAt : ByteArray := prog_10_method_6_code
def y_Tr_sortAt : MethodName := ⟨"QuerySteps$Tree", "sortAt", "(I)I"⟩
abbrev c_Tr_indexAt : ByteArray := prog_10_method_7_code
def y_Tr_indexAt : MethodName := ⟨"QuerySteps$Tree", "indexAt", "(I)I"⟩
abbrev c_Tr_leastAt : ByteArray := prog_10_method_8_code
def y_Tr_leastAt : MethodName := ⟨"QuerySteps$Tree", "leastAt", "(I)I"⟩
abbrev c_Tr_greatestAt : ByteArray := prog_10_method_9_code
def y_Tr_greatestAt : MethodName := ⟨"QuerySteps$Tree", "greatestAt", "(I)I"⟩
abbrev c_Tr_append : ByteArray := prog_10_method_10_code
def y_Tr_append : MethodName := ⟨"QuerySteps$Tree", "append", "(IIII)Z"⟩
abbrev c_Tr_insert : ByteArray := prog_10_method_11_code
def y_Tr_insert : MethodName := ⟨"QuerySteps$Tree", "insert", "(II)Z"⟩
abbrev c_Tr_copyFrom : ByteArray := prog_10_method_12_code
def y_Tr_copyFrom : MethodName := ⟨"QuerySteps$Tree", "copyFrom", "(LQuerySteps$Tree;)V"⟩
abbrev c_Tr_isLike : ByteArray := prog_10_method_13_code
def y_Tr_isLike : MethodName := ⟨"QuerySteps$Tree", "isLike", "(LQuerySteps$Tree;)Z"⟩
abbrev c_Tr_isNodeLike : ByteArray := prog_10_method_14_code
def y_Tr_isNodeLike : MethodName := ⟨"QuerySteps$Tree", "isNodeLike", "(LQuerySteps$Tree;I)Z"⟩
abbrev c_Tr_copyNode : ByteArray := prog_10_method_15_code
def y_Tr_copyNode : MethodName := ⟨"QuerySteps$Tree", "copyNode", "(ILQuerySteps$Tree;I)V"⟩
abbrev c_Tr_put : ByteArray := prog_10_method_16_code
def y_Tr_put : MethodName := ⟨"QuerySteps$Tree", "put", "(IIIII)V"⟩
abbrev c_Un_init : ByteArray := prog_11_method_1_code
def y_Un_init : MethodName := ⟨"QuerySteps$Unknown", "<init>", "()V"⟩
abbrev c_Un_forget : ByteArray := prog_11_method_2_code
def y_Un_forget : MethodName := ⟨"QuerySteps$Unknown", "forget", "()V"⟩
abbrev c_Un_keep : ByteArray := prog_11_method_3_code
def y_Un_keep : MethodName := ⟨"QuerySteps$Unknown", "keep", "(LQuerySteps$Source;I)V"⟩
abbrev c_Un_length : ByteArray := prog_11_method_4_code
def y_Un_length : MethodName := ⟨"QuerySteps$Unknown", "length", "()I"⟩
abbrev c_Un_letterAt : ByteArray := prog_11_method_5_code
def y_Un_letterAt : MethodName := ⟨"QuerySteps$Unknown", "letterAt", "(I)I"⟩
end
section
/-! ===== the kinds of arrays; nest mates; texts ===== -/
def zty (k : Nat → ClassId) : List (ClassId × FieldType) := [(k 0, .int), (k 1, .long), (k 2, .boolean), (k 3, .object "QuerySteps$Question"), (k 4, .byte)]
def zNF : List (String × Nat × String × String × String × String) := [("QuerySteps$Hits", 35, "QuerySteps$Question", "tree", "LQuerySteps$Tree;", "QuerySteps"), ("QuerySteps", 173, "QuerySteps$Question", "tree", "LQuerySteps$Tree;", "QuerySteps"), ("QuerySteps", 181, "QuerySteps$Question", "isKept", "Z", "QuerySteps")]
def zNM : List (String × Nat × MethodName × String) := [("QuerySteps", 9, ⟨"QuerySteps$Source", "<init>", "()V"⟩, "QuerySteps"), ("QuerySteps", 18, ⟨"QuerySteps$Indexes", "<init>", "()V"⟩, "QuerySteps"), ("QuerySteps", 25, ⟨"QuerySteps$Unknown", "<init>", "()V"⟩, "QuerySteps"), ("QuerySteps", 32, ⟨"QuerySteps$Tree", "<init>", "()V"⟩, "QuerySteps"), ("QuerySteps", 57, ⟨"QuerySteps$Records", "<init>", "()V"⟩, "QuerySteps"), ("QuerySteps", 68, ⟨"QuerySteps$Question", "<init>", "()V"⟩, "QuerySteps"), ("QuerySteps$Question", 9, ⟨"QuerySteps$Tree", "<init>", "()V"⟩, "QuerySteps"), ("QuerySteps", 71, ⟨"QuerySteps$Hits", "<init>", "()V"⟩, "QuerySteps")]
def zND : List MethodName := [⟨"QuerySteps$Reader", "takesTree", "(I)Z"⟩, ⟨"QuerySteps$Reader", "takeName", "()I"⟩, ⟨"QuerySteps$Reader", "takesGreatest", "(II)Z"⟩]
def zSn : Nat := 3
def zSl : List Nat := [3, 2, 3]
def zSb : List (List Int32) := [[97, 110, 100], [111, 114], [110, 111, 116]]
def zSt : List (String × Nat × String × Nat) := [("QuerySteps$Source", 33, "and", 0), ("QuerySteps$Source", 39, "or", 1), ("QuerySteps$Source", 41, "not", 2)]
/-- nest mates' words and abstract methods, at a state -/
def zNe (U : State) : Prop := (∀ f ∈ zNF, va_Nw (.fieldLinkNest f.1 f.2.1 f.2.2.1 f.2.2.2.1 f.2.2.2.2.1 f.2.2.2.2.2) U) ∧ (∀ q ∈ zNM, va_Nw (.methodLinkNest q.1 q.2.1 q.2.2.1 q.2.2.2) U) ∧ (∀ y ∈ zND, va_Nw (.declares y) U)
theorem zNe.same {u U : State} (h : u.vm = U.vm) (z : zNe u) : zNe U := ⟨fun f hf => va_Nw.same rfl h (z.1 f hf), fun q hq => va_Nw.same rfl h (z.2.1 q hq), fun y hy => va_Nw.same rfl h (z.2.2 y hy)⟩
theorem zNe.warm {s U : State} (hW : s.WarmedH U.vm) (z : zNe s) : zNe U := ⟨fun f hf => va_Nw.warmF hW (z.1 f hf), fun q hq => va_Nw.warmM hW (z.2.1 q hq), fun y hy => va_Nw.warmD hW (z.2.2 y hy)⟩
/-- texts: where they lie, at a state -/
def zTx (g : va_G × (Nat → ClassId) × Nat × (Nat → Nat) × (Nat → Nat)) (U : State) : Prop := vk_S zSn zSl zSb g.2.2.2.1 g.2.2.2.2 (fun q => g.2.2.1 ≤ q) U U.heap ∧ ∀ t ∈ zSt, vk_R t.1 t.2.1 t.2.2.1 (g.2.2.2.1 t.2.2.2) U
theorem zTx.same {g : va_G × (Nat → ClassId) × Nat × (Nat → Nat) × (Nat → Nat)} {U V : State} (hh : V.heap = U.heap) (hv : V.vm = U.vm) (z : zTx g U) : zTx g V := ⟨by rw [hh]; exact vk_S.moved (by rw [hv]; exact Vm.Alike.refl U.vm) z.1, fun t ht => vk_R.same hv (z.2 t ht)⟩
theorem zTx.warm {g : va_G × (Nat → ClassId) × Nat × (Nat → Nat) × (Nat → Nat)} {s U : State} (hW : s.WarmedH U.vm) (hq : ∀ q : Nat, q < s.heap.size → ¬ g.2.2.1 ≤ q → U.heap[q]? = s.heap[q]?) (z : zTx g s) : zTx g U := ⟨vk_S.moved hW.alike (vk_S.kept z.1 hq), fun t ht => vk_R.warm hW (z.2 t ht)⟩

/-! ===== ints out of whole numbers ===== -/
def iI (z : Int) : Int32 := Int32.ofInt z
theorem iI_t {a : Int} (h : -2147483648 ≤ a ∧ a < 2147483648) : (iI a).toInt = a := Int32.toInt_ofInt_of_le (by omega) (by omega)
theorem iI_of (x : Int32) : iI x.toInt = x := Int32.ofInt_toInt x
theorem iI_rng (x : Int32) : -2147483648 ≤ x.toInt ∧ x.toInt < 2147483648 := ⟨Int32.le_toInt x, Int32.toInt_lt x⟩
theorem iI_add (a b : Int) : iI a + iI b = iI (a + b) := (Int32.ofInt_add a b).symm
theorem iI_sub (a b : Int) : iI a - iI b = iI (a - b) := (Int32.ofInt_sub a b).symm
theorem iI_mul (a b : Int) : iI a * iI b = iI (a * b) := (Int32.ofInt_mul a b).symm
theorem iI_eq {a b : Int} (ha : -2147483648 ≤ a ∧ a < 2147483648) (hb : -2147483648 ≤ b ∧ b < 2147483648) : iI a = iI b ↔ a = b := by
  rw [← Int32.toInt_inj, iI_t ha, iI_t hb]
theorem iI_in {a : Int} {n : Nat} (h0 : 0 ≤ a) (h : a < n) (hn : n < 2147483648) : vp_in (iI a) n := vp_in_iff.mpr (by
  rw [iI_t (by omega)]
  exact ⟨h0, h⟩)
theorem iI_cl {a : Int} {k : Nat} (h : a = k) (hk : k < 2147483648) : (iI a).toNatClampNeg = k := by
  rw [← Int32.toNat_toInt, iI_t (by omega), h]
  exact Int.toNat_natCast k
def bI (b : Bool) : Int := if b then 1 else 0
theorem bI_rng (b : Bool) : 0 ≤ bI b ∧ bI b ≤ 1 := by cases b <;> decide
theorem bI_0 {b : Bool} : bI b = 0 ↔ b = false := by cases b <;> decide
theorem bI_nar (b : Bool) : narrow .boolean (.int (iI (bI b))) = .int (iI (bI b)) := by cases b <;> decide
theorem bI_fit (b : Bool) : fits .boolean (.int (iI (bI b))) = true := by cases b <;> decide
theorem bI_vnar (b : Bool) : vp_nar .boolean (iI (bI b)) = iI (bI b) := by cases b <;> decide
def nF (h : Nat → Nat) : Nat → Int32 := fun k => iI ((h k : Nat) : Int)
def bF (h : Nat → Bool) : Nat → Int32 := fun k => iI (bI (h k))
def up {α : Type} (f : Nat → α) (k : Nat) (v : α) : Nat → α := fun j => if j = k then v else f j
theorem upd_nF (h : Nat → Nat) (k v : Nat) : upd (nF h) k (iI ((v : Nat) : Int)) = nF (up h k v) := by
  funext j
  unfold upd nF up
  by_cases e : j = k <;> simp [e]
theorem upd_bF (h : Nat → Bool) (k : Nat) (v : Bool) : upd (bF h) k (iI (bI v)) = bF (up h k v) := by
  funext j
  unfold upd bF up
  by_cases e : j = k <;> simp [e]
/-! ===== the context: x hides what never changes within a method ===== -/
abbrev ZG : Type := va_G × (Nat → ClassId) × Nat × (Nat → Nat) × (Nat → Nat)
def zK (g : ZG) (U : State) : Prop := va_K g.1 vwCl (zty g.2.1) U ∧ zNe U ∧ zTx g U
theorem zK.blind {g : ZG} {U V : State} (hh : V.heap = U.heap) (hv : V.vm = U.vm) (h : zK g U) : zK g V :=
  ⟨va_K.moved (by rw [hv]; exact Vm.Alike.refl U.vm) h.1, zNe.same hv.symm h.2.1, zTx.same hh hv h.2.2⟩
theorem zK.warm {g : ZG} {s U : State} (hW : s.WarmedH U.vm) (hq : ∀ q : Nat, q < s.heap.size → ¬ g.2.2.1 ≤ q → U.heap[q]? = s.heap[q]?) (h : zK g s) : zK g U :=
  ⟨va_K.moved hW.alike h.1, zNe.warm hW h.2.1, zTx.warm hW hq h.2.2⟩
abbrev ZC : Type := Program × Launch × Env × Room × State × MethodId × Array Value × List Frame × Method × Code × ZG × (Nat → Prop) × Heap × (State → Prop) × Nat
/-- the machine at pc with the world w, the locals lv, the stack st comes to its end -/
def Z (x : ZC) (u : Nat × Nat) (w : va_W) (pc : Nat) (lv : List (Nat × Value)) (st : List Value) : Prop := match x with
  | (p, l, e, R, s, m, args, below, meth, c, g, A, H0, Q, nL) => ∀ (H : Heap) (locs : List Loc) (ls : Array Slot), va_P g.1 vwCl w H → va_D A w → va_S A H0 H locs → lv_has ls nL lv → W p l e R s m args below meth c H locs u.1 u.2 Q (F0 m pc ls st)
/-- what is known of x -/
def zO (x : ZC) (l : Launch) (g : ZG) (R : Room) (cc : ByteArray) (nL : Nat) (own : String) : Prop := match x with
  | (p, l', _, R', s, m, args, _, _, c, g', A, H0, _, nL') => l' = l ∧ g' = g ∧ R' = R ∧ nL' = nL ∧ CallFix p m c cc nL s args zTB own ∧ zK g s ∧ H0 = s.heap ∧ ∀ q, A q → g.2.2.1 ≤ q
/-- a contract: from the world w the answer is r, and the world is w' -/
def Ct (l : Launch) (g : ZG) (y : MethodName) (cc : ByteArray) (maxL : Nat) (ret : Option FieldType) (rm : Room) (av : List Value) (w : va_W) (r : Option Value) (w' : va_W) : Prop :=
  Met l y (Cond.code y cc maxL ret :: zTB) rm (va_Pc av (fun U => zK g U ∧ va_P g.1 vwCl w U.heap ∧ va_D (fun q => g.2.2.1 ≤ q) w)) (fun _ st o t => o = .returned r ∧ va_P g.1 vwCl w' t.heap ∧ va_F (fun q => q ∈ w.map Prod.fst) st t) 0 0 (fun q => q ∈ w.map Prod.fst)
theorem zD_self {B : Nat → Prop} {w : va_W} (h : va_D B w) : va_D (fun q => q ∈ w.map Prod.fst) w := ⟨h.1, fun k q hk => List.mem_map.mpr ⟨q, List.mem_of_getElem? hk, rfl⟩⟩
theorem zD_in {B : Nat → Prop} {w : va_W} (h : va_D B w) {q : Nat} (hq : q ∈ w.map Prod.fst) : B q := by
  obtain ⟨e, he, rfl⟩ := List.mem_map.mp hq
  obtain ⟨k, hk⟩ := List.getElem?_of_mem he
  exact h.2 k e hk

section ZE
variable {l : Launch} {g : ZG} {y : MethodName} {rm : Room} {av : List Value} {w : va_W} {w' : va_W} {cc : ByteArray} {maxL : Nat} {lv : List (Nat × Value)}

/-- a contract out of a walk from the method's entry (answer: i) -/
theorem ct_i {v : Int32} (hy : plainName y.cls = true) (hlv : lv_args 0 av = lv) (hle : (lg_sl av).length ≤ maxL) (hww : w'.map Prod.fst = w.map Prod.fst)
    (body : ∀ x : ZC, zO x l g rm cc maxL y.cls → (∀ (pc : Nat) (lv : List (Nat × Value)), decode cc pc = .ok (.ireturn, 1) → Z x (0, 0) w' pc lv [.int v]) → Z x (0, 0) w 0 lv []) : Ct l g y cc maxL (some .int) rm av w (some (.int v)) w' := by
  refine Met.ofW (cc := cc) (maxL := maxL) (ret := (some .int)) hy rfl ?_
  intro p e s m args below meth c s₁ B hml hv
  obtain ⟨rfl, hK, hP, hD0⟩ := hv
  have hx := B.exec
  have hb := B.bytes
  have hr := B.returns
  have hts : ∀ w ∈ zTB, w.before av.toArray s = true := fun w hw => atoms_spec (ws := Cond.code y cc maxL (some .int) :: zTB) B.pre w (List.mem_cons_of_mem _ hw)
  have hown : s.vm.findClass y.cls = some m.cls := findClass_of_methodNamed B.named
  have hlocks := B.notSynchronized
  have hl := lv_entry av (n := maxL) hle
  rw [lg_entry_eq]
  rw [hlv] at hl
  refine body (p, l, e, rm, s, m, av.toArray, below, meth, c, g, (fun q => q ∈ w.map Prod.fst), s.heap, MQ below _ av.toArray s 0 0 _, maxL) ⟨rfl, rfl, rfl, rfl, ⟨hx, hb, hml, hown, hts⟩, hK, rfl, fun q hq => zD_in hD0 hq⟩ ?_ s.heap [] _ hP (zD_self hD0) va_S.rf hl
  intro pc lv hd H locs ls hP hD hS hl
  exact W.iret hx hb hr (fun t ht hW => ⟨rfl, by rw [ht]; exact hP, hS.F ht⟩) hS.2.2 hd hlocks
/-- a contract out of a walk from the method's entry (answer: z) -/
theorem ct_z {v : Bool} (hy : plainName y.cls = true) (hlv : lv_args 0 av = lv) (hle : (lg_sl av).length ≤ maxL) (hww : w'.map Prod.fst = w.map Prod.fst)
    (body : ∀ x : ZC, zO x l g rm cc maxL y.cls → (∀ (pc : Nat) (lv : List (Nat × Value)), decode cc pc = .ok (.ireturn, 1) → Z x (0, 0) w' pc lv [.int (iI (bI v))]) → Z x (0, 0) w 0 lv []) : Ct l g y cc maxL (some .boolean) rm av w (some (.int (iI (bI v)))) w' := by
  refine Met.ofW (cc := cc) (maxL := maxL) (ret := (some .boolean)) hy rfl ?_
  intro p e s m args below meth c s₁ B hml hv
  obtain ⟨rfl, hK, hP, hD0⟩ := hv
  have hx := B.exec
  have hb := B.bytes
  have hr := B.returns
  have hts : ∀ w ∈ zTB, w.before av.toArray s = true := fun w hw => atoms_spec (ws := Cond.code y cc maxL (some .boolean) :: zTB) B.pre w (List.mem_cons_of_mem _ hw)
  have hown : s.vm.findClass y.cls = some m.cls := findClass_of_methodNamed B.named
  have hlocks := B.notSynchronized
  have hl := lv_entry av (n := maxL) hle
  rw [lg_entry_eq]
  rw [hlv] at hl
  refine body (p, l, e, rm, s, m, av.toArray, below, meth, c, g, (fun q => q ∈ w.map Prod.fst), s.heap, MQ below _ av.toArray s 0 0 _, maxL) ⟨rfl, rfl, rfl, rfl, ⟨hx, hb, hml, hown, hts⟩, hK, rfl, fun q hq => zD_in hD0 hq⟩ ?_ s.heap [] _ hP (zD_self hD0) va_S.rf hl
  intro pc lv hd H locs ls hP hD hS hl
  exact W.zret hx hb hr (bI_nar v) (fun t ht hW => ⟨rfl, by rw [ht]; exact hP, hS.F ht⟩) hS.2.2 hd hlocks
/-- a contract out of a walk from the method's entry (answer: l) -/
theorem ct_l {v : Int64} (hy : plainName y.cls = true) (hlv : lv_args 0 av = lv) (hle : (lg_sl av).length ≤ maxL) (hww : w'.map Prod.fst = w.map Prod.fst)
    (body : ∀ x : ZC, zO x l g rm cc maxL y.cls → (∀ (pc : Nat) (lv : List (Nat × Value)), decode cc pc = .ok (.lreturn, 1) → Z x (0, 0) w' pc lv [.long v]) → Z x (0, 0) w 0 lv []) : Ct l g y cc maxL (some .long) rm av w (some (.long v)) w' := by
  refine Met.ofW (cc := cc) (maxL := maxL) (ret := (some .long)) hy rfl ?_
  intro p e s m args below meth c s₁ B hml hv
  obtain ⟨rfl, hK, hP, hD0⟩ := hv
  have hx := B.exec
  have hb := B.bytes
  have hr := B.returns
  have hts : ∀ w ∈ zTB, w.before av.toArray s = true := fun w hw => atoms_spec (ws := Cond.code y cc maxL (some .long) :: zTB) B.pre w (List.mem_cons_of_mem _ hw)
  have hown : s.vm.findClass y.cls = some m.cls := findClass_of_methodNamed B.named
  have hlocks := B.notSynchronized
  have hl := lv_entry av (n := maxL) hle
  rw [lg_entry_eq]
  rw [hlv] at hl
  refine body (p, l, e, rm, s, m, av.toArray, below, meth, c, g, (fun q => q ∈ w.map Prod.fst), s.heap, MQ below _ av.toArray s 0 0 _, maxL) ⟨rfl, rfl, rfl, rfl, ⟨hx, hb, hml, hown, hts⟩, hK, rfl, fun q hq => zD_in hD0 hq⟩ ?_ s.heap [] _ hP (zD_self hD0) va_S.rf hl
  intro pc lv hd H locs ls hP hD hS hl
  exact W.lret hx hb hr (fun t ht hW => ⟨rfl, by rw [ht]; exact hP, hS.F ht⟩) hS.2.2 hd hlocks
/-- a contract out of a walk from the method's entry (answer: v) -/
theorem ct_v  (hy : plainName y.cls = true) (hlv : lv_args 0 av = lv) (hle : (lg_sl av).length ≤ maxL) (hww : w'.map Prod.fst = w.map Prod.fst)
    (body : ∀ x : ZC, zO x l g rm cc maxL y.cls → (∀ (pc : Nat) (lv : List (Nat × Value)), decode cc pc = .ok (.return_, 1) → Z x (0, 0) w' pc lv []) → Z x (0, 0) w 0 lv []) : Ct l g y cc maxL none rm av w none w' := by
  refine Met.ofW (cc := cc) (maxL := maxL) (ret := none) hy rfl ?_
  intro p e s m args below meth c s₁ B hml hv
  obtain ⟨rfl, hK, hP, hD0⟩ := hv
  have hx := B.exec
  have hb := B.bytes
  have hr := B.returns
  have hts : ∀ w ∈ zTB, w.before av.toArray s = true := fun w hw => atoms_spec (ws := Cond.code y cc maxL none :: zTB) B.pre w (List.mem_cons_of_mem _ hw)
  have hown : s.vm.findClass y.cls = some m.cls := findClass_of_methodNamed B.named
  have hlocks := B.notSynchronized
  have hl := lv_entry av (n := maxL) hle
  rw [lg_entry_eq]
  rw [hlv] at hl
  refine body (p, l, e, rm, s, m, av.toArray, below, meth, c, g, (fun q => q ∈ w.map Prod.fst), s.heap, MQ below _ av.toArray s 0 0 _, maxL) ⟨rfl, rfl, rfl, rfl, ⟨hx, hb, hml, hown, hts⟩, hK, rfl, fun q hq => zD_in hD0 hq⟩ ?_ s.heap [] _ hP (zD_self hD0) va_S.rf hl
  intro pc lv hd H locs ls hP hD hS hl
  exact W.vret hx hb hr (fun t ht hW => ⟨rfl, by rw [ht]; exact hP, hS.F ht⟩) hS.2.2 hd hlocks
end ZE
section ZR
variable {x : ZC} {l : Launch} {g : ZG} {R : Room} {cc : ByteArray} {nL : Nat} {own : String} {u : Nat × Nat} {w : va_W} {pc : Nat} {lv : List (Nat × Value)} {st : List Value}
theorem Z.eq {pc' : Nat} {w' : va_W} {lv' : List (Nat × Value)} {st' : List Value} (h1 : w = w') (h2 : pc = pc') (h3 : lv = lv') (h4 : st = st') (k : Z x u w' pc' lv' st') : Z x u w pc lv st := by subst h1 h2 h3 h4; exact k
theorem Zloc {lv' : List (Nat × Value)} (ks : List Nat) (h : lv_pick lv ks = lv') (k : Z x u w pc lv' st) : Z x u w pc lv st := by
  obtain ⟨p, l, e, R, s, m, args, below, meth, c, g, A, H0, Q, nL⟩ := x
  exact fun H locs ls hP hD hS hl => k H locs ls hP hD hS (lv_sub hl ks h)
theorem z_iconst (hC : zO x l g R cc nL own) {n : Int} (hd : decode cc pc = .ok (.iconst n, 1)) (k : Z x u w (pc + 1) lv (.int (iI n) :: st)) : Z x u w pc lv (st) := by
  obtain ⟨p, l', e, R', s, m, args, below, meth, c, g', A, H0, Q, nL'⟩ := x
  obtain ⟨rfl, rfl, rfl, rfl, ⟨hx, hb, hml, hown, hts⟩, hK, rfl, hA⟩ := hC
  exact fun H locs ls hP hD hS hl => lv_iconst (v := iI n) hx hb hd rfl (k H locs ls hP hD hS hl)
theorem z_bipush (hC : zO x l g R cc nL own) {n : Int} {a : Int} (hd : decode cc pc = .ok (.bipush n, 2)) (hv : (Int8.ofInt n).toInt32 = iI a) (k : Z x u w (pc + 2) lv (.int (iI a) :: st)) : Z x u w pc lv (st) := by
  obtain ⟨p, l', e, R', s, m, args, below, meth, c, g', A, H0, Q, nL'⟩ := x
  obtain ⟨rfl, rfl, rfl, rfl, ⟨hx, hb, hml, hown, hts⟩, hK, rfl, hA⟩ := hC
  exact fun H locs ls hP hD hS hl => lv_bipush (v := iI a) hx hb hd hv (k H locs ls hP hD hS hl)
theorem z_sipush (hC : zO x l g R cc nL own) {n : Int} {a : Int} (hd : decode cc pc = .ok (.sipush n, 3)) (hv : (Int16.ofInt n).toInt32 = iI a) (k : Z x u w (pc + 3) lv (.int (iI a) :: st)) : Z x u w pc lv (st) := by
  obtain ⟨p, l', e, R', s, m, args, below, meth, c, g', A, H0, Q, nL'⟩ := x
  obtain ⟨rfl, rfl, rfl, rfl, ⟨hx, hb, hml, hown, hts⟩, hK, rfl, hA⟩ := hC
  exact fun H locs ls hP hD hS hl => lv_sipush (v := iI a) hx hb hd hv (k H locs ls hP hD hS hl)
theorem z_lconst (hC : zO x l g R cc nL own) {n : Fin 2} {v : Int64} (hd : decode cc pc = .ok (.lconst n, 1)) (hv : Int64.ofNat (n : Nat) = v) (k : Z x u w (pc + 1) lv (.long v :: st)) : Z x u w pc lv (st) := by
  obtain ⟨p, l', e, R', s, m, args, below, meth, c, g', A, H0, Q, nL'⟩ := x
  obtain ⟨rfl, rfl, rfl, rfl, ⟨hx, hb, hml, hown, hts⟩, hK, rfl, hA⟩ := hC
  exact fun H locs ls hP hD hS hl => lv_lconst (v := v) hx hb hd hv (k H locs ls hP hD hS hl)
theorem z_iload_n (hC : zO x l g R cc nL own) {k0 : Fin 4} {i : Nat} {v : Int32} (hd : decode cc pc = .ok (.iload_n k0, 1)) (hi : (k0 : Nat) = i) (j : Nat) (hj : lv[j]? = some (i, .int v)) (k : Z x u w (pc + 1) lv (.int v :: st)) : Z x u w pc lv (st) := by
  obtain ⟨p, l', e, R', s, m, args, below, meth, c, g', A, H0, Q, nL'⟩ := x
  obtain ⟨rfl, rfl, rfl, rfl, ⟨hx, hb, hml, hown, hts⟩, hK, rfl, hA⟩ := hC
  exact fun H locs ls hP hD hS hl => lv_iload_n hx hb hd hi (lv_at hl j hj) (k H locs ls hP hD hS hl)
theorem z_iload (hC : zO x l g R cc nL own) {i : Nat} {v : Int32} (hd : decode cc pc = .ok (.iload i, 2)) (j : Nat) (hj : lv[j]? = some (i, .int v)) (k : Z x u w (pc + 2) lv (.int v :: st)) : Z x u w pc lv (st) := by
  obtain ⟨p, l', e, R', s, m, args, below, meth, c, g', A, H0, Q, nL'⟩ := x
  obtain ⟨rfl, rfl, rfl, rfl, ⟨hx, hb, hml, hown, hts⟩, hK, rfl, hA⟩ := hC
  exact fun H locs ls hP hD hS hl => lv_iload hx hb hd (lv_at hl j hj) (k H locs ls hP hD hS hl)
theorem z_istore_n (hC : zO x l g R cc nL own) {k0 : Fin 4} {i : Nat} {v : Int32} {lv' : List (Nat × Value)} (hd : decode cc pc = .ok (.istore_n k0, 1)) (hi : (k0 : Nat) = i) (hn : i < nL) (hv : (i, Value.int v) :: lv.filter (fun q => !(q.1 == i) && !(q.1 + 1 == i && q.2.category == 2)) = lv') (k : Z x u w (pc + 1) lv' st) : Z x u w pc lv (.int v :: st) := by
  obtain ⟨p, l', e, R', s, m, args, below, meth, c, g', A, H0, Q, nL'⟩ := x
  obtain ⟨rfl, rfl, rfl, rfl, ⟨hx, hb, hml, hown, hts⟩, hK, rfl, hA⟩ := hC
  exact fun H locs ls hP hD hS hl => lv_istore_n hx hb hd hi hl hn hv (fun ls' hl' => k H locs ls' hP hD hS hl')
theorem z_istore (hC : zO x l g R cc nL own) {i : Nat} {v : Int32} {lv' : List (Nat × Value)} (hd : decode cc pc = .ok (.istore i, 2)) (hn : i < nL) (hv : (i, Value.int v) :: lv.filter (fun q => !(q.1 == i) && !(q.1 + 1 == i && q.2.category == 2)) = lv') (k : Z x u w (pc + 2) lv' st) : Z x u w pc lv (.int v :: st) := by
  obtain ⟨p, l', e, R', s, m, args, below, meth, c, g', A, H0, Q, nL'⟩ := x
  obtain ⟨rfl, rfl, rfl, rfl, ⟨hx, hb, hml, hown, hts⟩, hK, rfl, hA⟩ := hC
  exact fun H locs ls hP hD hS hl => lv_istore hx hb hd hl hn hv (fun ls' hl' => k H locs ls' hP hD hS hl')
theorem z_lload_n (hC : zO x l g R cc nL own) {k0 : Fin 4} {i : Nat} {v : Int64} (hd : decode cc pc = .ok (.lload_n k0, 1)) (hi : (k0 : Nat) = i) (j : Nat) (hj : lv[j]? = some (i, .long v)) (k : Z x u w (pc + 1) lv (.long v :: st)) : Z x u w pc lv (st) := by
  obtain ⟨p, l', e, R', s, m, args, below, meth, c, g', A, H0, Q, nL'⟩ := x
  obtain ⟨rfl, rfl, rfl, rfl, ⟨hx, hb, hml, hown, hts⟩, hK, rfl, hA⟩ := hC
  exact fun H locs ls hP hD hS hl => lv_lload_n hx hb hd hi (lv_at hl j hj) (k H locs ls hP hD hS hl)
theorem z_lload (hC : zO x l g R cc nL own) {i : Nat} {v : Int64} (hd : decode cc pc = .ok (.lload i, 2)) (j : Nat) (hj : lv[j]? = some (i, .long v)) (k : Z x u w (pc + 2) lv (.long v :: st)) : Z x u w pc lv (st) := by
  obtain ⟨p, l', e, R', s, m, args, below, meth, c, g', A, H0, Q, nL'⟩ := x
  obtain ⟨rfl, rfl, rfl, rfl, ⟨hx, hb, hml, hown, hts⟩, hK, rfl, hA⟩ := hC
  exact fun H locs ls hP hD hS hl => lv_lload hx hb hd (lv_at hl j hj) (k H locs ls hP hD hS hl)
theorem z_lstore_n (hC : zO x l g R cc nL own) {k0 : Fin 4} {i : Nat} {v : Int64} {lv' : List (Nat × Value)} (hd : decode cc pc = .ok (.lstore_n k0, 1)) (hi : (k0 : Nat) = i) (hn : i + 1 < nL) (hv : (i, Value.long v) :: lv.filter (fun q => !(q.1 == i) && (!(q.1 == i + 1) && !(q.1 + 1 == i && q.2.category == 2))) = lv') (k : Z x u w (pc + 1) lv' st) : Z x u w pc lv (.long v :: st) := by
  obtain ⟨p, l', e, R', s, m, args, below, meth, c, g', A, H0, Q, nL'⟩ := x
  obtain ⟨rfl, rfl, rfl, rfl, ⟨hx, hb, hml, hown, hts⟩, hK, rfl, hA⟩ := hC
  exact fun H locs ls hP hD hS hl => lv_lstore_n hx hb hd hi hl hn hv (fun ls' hl' => k H locs ls' hP hD hS hl')
theorem z_lstore (hC : zO x l g R cc nL own) {i : Nat} {v : Int64} {lv' : List (Nat × Value)} (hd : decode cc pc = .ok (.lstore i, 2)) (hn : i + 1 < nL) (hv : (i, Value.long v) :: lv.filter (fun q => !(q.1 == i) && (!(q.1 == i + 1) && !(q.1 + 1 == i && q.2.category == 2))) = lv') (k : Z x u w (pc + 2) lv' st) : Z x u w pc lv (.long v :: st) := by
  obtain ⟨p, l', e, R', s, m, args, below, meth, c, g', A, H0, Q, nL'⟩ := x
  obtain ⟨rfl, rfl, rfl, rfl, ⟨hx, hb, hml, hown, hts⟩, hK, rfl, hA⟩ := hC
  exact fun H locs ls hP hD hS hl => lv_lstore hx hb hd hl hn hv (fun ls' hl' => k H locs ls' hP hD hS hl')
theorem z_aload_n (hC : zO x l g R cc nL own) {k0 : Fin 4} {i : Nat} {v : Nat} (hd : decode cc pc = .ok (.aload_n k0, 1)) (hi : (k0 : Nat) = i) (j : Nat) (hj : lv[j]? = some (i, .ref v)) (k : Z x u w (pc + 1) lv (.ref v :: st)) : Z x u w pc lv (st) := by
  obtain ⟨p, l', e, R', s, m, args, below, meth, c, g', A, H0, Q, nL'⟩ := x
  obtain ⟨rfl, rfl, rfl, rfl, ⟨hx, hb, hml, hown, hts⟩, hK, rfl, hA⟩ := hC
  exact fun H locs ls hP hD hS hl => lv_aload_n hx hb hd hi (lv_at hl j hj) (k H locs ls hP hD hS hl)
theorem z_aload (hC : zO x l g R cc nL own) {i : Nat} {v : Nat} (hd : decode cc pc = .ok (.aload i, 2)) (j : Nat) (hj : lv[j]? = some (i, .ref v)) (k : Z x u w (pc + 2) lv (.ref v :: st)) : Z x u w pc lv (st) := by
  obtain ⟨p, l', e, R', s, m, args, below, meth, c, g', A, H0, Q, nL'⟩ := x
  obtain ⟨rfl, rfl, rfl, rfl, ⟨hx, hb, hml, hown, hts⟩, hK, rfl, hA⟩ := hC
  exact fun H locs ls hP hD hS hl => lv_aload hx hb hd (lv_at hl j hj) (k H locs ls hP hD hS hl)
theorem z_astore_n (hC : zO x l g R cc nL own) {k0 : Fin 4} {i : Nat} {v : Nat} {lv' : List (Nat × Value)} (hd : decode cc pc = .ok (.astore_n k0, 1)) (hi : (k0 : Nat) = i) (hn : i < nL) (hv : (i, Value.ref v) :: lv.filter (fun q => !(q.1 == i) && !(q.1 + 1 == i && q.2.category == 2)) = lv') (k : Z x u w (pc + 1) lv' st) : Z x u w pc lv (.ref v :: st) := by
  obtain ⟨p, l', e, R', s, m, args, below, meth, c, g', A, H0, Q, nL'⟩ := x
  obtain ⟨rfl, rfl, rfl, rfl, ⟨hx, hb, hml, hown, hts⟩, hK, rfl, hA⟩ := hC
  exact fun H locs ls hP hD hS hl => lv_astore_n hx hb hd hi hl hn hv (fun ls' hl' => k H locs ls' hP hD hS hl')
theorem z_astore (hC : zO x l g R cc nL own) {i : Nat} {v : Nat} {lv' : List (Nat × Value)} (hd : decode cc pc = .ok (.astore i, 2)) (hn : i < nL) (hv : (i, Value.ref v) :: lv.filter (fun q => !(q.1 == i) && !(q.1 + 1 == i && q.2.category == 2)) = lv') (k : Z x u w (pc + 2) lv' st) : Z x u w pc lv (.ref v :: st) := by
  obtain ⟨p, l', e, R', s, m, args, below, meth, c, g', A, H0, Q, nL'⟩ := x
  obtain ⟨rfl, rfl, rfl, rfl, ⟨hx, hb, hml, hown, hts⟩, hK, rfl, hA⟩ := hC
  exact fun H locs ls hP hD hS hl => lv_astore hx hb hd hl hn hv (fun ls' hl' => k H locs ls' hP hD hS hl')
theorem z_iinc (hC : zO x l g R cc nL own) {i : Nat} {n a : Int} {lv' : List (Nat × Value)} (hd : decode cc pc = .ok (.iinc i n, 3)) (j : Nat) (hj : lv[j]? = some (i, .int (iI a))) (hn : i < nL) (hv : (i, Value.int (iI (a + n))) :: lv.filter (fun q => !(q.1 == i) && !(q.1 + 1 == i && q.2.category == 2)) = lv') (k : Z x u w (pc + 3) lv' st) : Z x u w pc lv st := by
  obtain ⟨p, l', e, R', s, m, args, below, meth, c, g', A, H0, Q, nL'⟩ := x
  obtain ⟨rfl, rfl, rfl, rfl, ⟨hx, hb, hml, hown, hts⟩, hK, rfl, hA⟩ := hC
  exact fun H locs ls hP hD hS hl => lv_iinc (v := iI (a + n)) hx hb hd hl hj (iI_add a n) hn hv (fun ls' hl' => k H locs ls' hP hD hS hl')
theorem z_iadd (hC : zO x l g R cc nL own) {a b : Int} (hd : decode cc pc = .ok (.iadd, 1)) (k : Z x u w (pc + 1) lv (.int (iI (a + b)) :: st)) : Z x u w pc lv (.int (iI b) :: .int (iI a) :: st) := by
  obtain ⟨p, l', e, R', s, m, args, below, meth, c, g', A, H0, Q, nL'⟩ := x
  obtain ⟨rfl, rfl, rfl, rfl, ⟨hx, hb, hml, hown, hts⟩, hK, rfl, hA⟩ := hC
  exact fun H locs ls hP hD hS hl => lv_iadd hx hb hd <| by rw [iI_add]; exact (k H locs ls hP hD hS hl)
theorem z_isub (hC : zO x l g R cc nL own) {a b : Int} (hd : decode cc pc = .ok (.isub, 1)) (k : Z x u w (pc + 1) lv (.int (iI (a - b)) :: st)) : Z x u w pc lv (.int (iI b) :: .int (iI a) :: st) := by
  obtain ⟨p, l', e, R', s, m, args, below, meth, c, g', A, H0, Q, nL'⟩ := x
  obtain ⟨rfl, rfl, rfl, rfl, ⟨hx, hb, hml, hown, hts⟩, hK, rfl, hA⟩ := hC
  exact fun H locs ls hP hD hS hl => lv_isub hx hb hd <| by rw [iI_sub]; exact (k H locs ls hP hD hS hl)
theorem z_imul (hC : zO x l g R cc nL own) {a b : Int} (hd : decode cc pc = .ok (.imul, 1)) (k : Z x u w (pc + 1) lv (.int (iI (a * b)) :: st)) : Z x u w pc lv (.int (iI b) :: .int (iI a) :: st) := by
  obtain ⟨p, l', e, R', s, m, args, below, meth, c, g', A, H0, Q, nL'⟩ := x
  obtain ⟨rfl, rfl, rfl, rfl, ⟨hx, hb, hml, hown, hts⟩, hK, rfl, hA⟩ := hC
  exact fun H locs ls hP hD hS hl => lv_imul hx hb hd <| by rw [iI_mul]; exact (k H locs ls hP hD hS hl)
theorem z_dup (hC : zO x l g R cc nL own) {v : Value} (hd : decode cc pc = .ok (.dup, 1)) (hv : v.category = 1) (k : Z x u w (pc + 1) lv (v :: v :: st)) : Z x u w pc lv (v :: st) := by
  obtain ⟨p, l', e, R', s, m, args, below, meth, c, g', A, H0, Q, nL'⟩ := x
  obtain ⟨rfl, rfl, rfl, rfl, ⟨hx, hb, hml, hown, hts⟩, hK, rfl, hA⟩ := hC
  exact fun H locs ls hP hD hS hl => lv_dup hx hb hd hv (k H locs ls hP hD hS hl)
theorem z_pop (hC : zO x l g R cc nL own) {v : Value} (hd : decode cc pc = .ok (.pop, 1)) (hv : v.category = 1) (k : Z x u w (pc + 1) lv (st)) : Z x u w pc lv (v :: st) := by
  obtain ⟨p, l', e, R', s, m, args, below, meth, c, g', A, H0, Q, nL'⟩ := x
  obtain ⟨rfl, rfl, rfl, rfl, ⟨hx, hb, hml, hown, hts⟩, hK, rfl, hA⟩ := hC
  exact fun H locs ls hP hD hS hl => lv_pop hx hb hd hv (k H locs ls hP hD hS hl)
theorem z_dup_x1 (hC : zO x l g R cc nL own) {v v2 : Value} (hd : decode cc pc = .ok (.dup_x1, 1)) (hv : v.category = 1) (hv2 : v2.category = 1) (k : Z x u w (pc + 1) lv (v :: v2 :: v :: st)) : Z x u w pc lv (v :: v2 :: st) := by
  obtain ⟨p, l', e, R', s, m, args, below, meth, c, g', A, H0, Q, nL'⟩ := x
  obtain ⟨rfl, rfl, rfl, rfl, ⟨hx, hb, hml, hown, hts⟩, hK, rfl, hA⟩ := hC
  exact fun H locs ls hP hD hS hl => lv_dup_x1 hx hb hd hv hv2 (k H locs ls hP hD hS hl)
theorem z_dup2 (hC : zO x l g R cc nL own) {v v2 : Value} (hd : decode cc pc = .ok (.dup2, 1)) (hv : v.category = 1) (hv2 : v2.category = 1) (k : Z x u w (pc + 1) lv (v :: v2 :: v :: v2 :: st)) : Z x u w pc lv (v :: v2 :: st) := by
  obtain ⟨p, l', e, R', s, m, args, below, meth, c, g', A, H0, Q, nL'⟩ := x
  obtain ⟨rfl, rfl, rfl, rfl, ⟨hx, hb, hml, hown, hts⟩, hK, rfl, hA⟩ := hC
  exact fun H locs ls hP hD hS hl => lv_dup2_11 hx hb hd hv hv2 (k H locs ls hP hD hS hl)
theorem z_goto (hC : zO x l g R cc nL own) {off : Int} {tgt : Nat} (hd : decode cc pc = .ok (.goto off, 3)) (ht : (pc : Int) + off = (tgt : Int)) (k : Z x u w tgt lv st) : Z x u w pc lv st := by
  obtain ⟨p, l', e, R', s, m, args, below, meth, c, g', A, H0, Q, nL'⟩ := x
  obtain ⟨rfl, rfl, rfl, rfl, ⟨hx, hb, hml, hown, hts⟩, hK, rfl, hA⟩ := hC
  exact fun H locs ls hP hD hS hl => lv_goto hx hb hd ht (k H locs ls hP hD hS hl)
theorem zc_eq {x y : Int32} {a b : Int} (hx : x.toInt = a) (hy : y.toInt = b) : x = y ↔ a = b := by rw [← Int32.toInt_inj, hx, hy]
theorem zc_lt {x y : Int32} {a b : Int} (hx : x.toInt = a) (hy : y.toInt = b) : x < y ↔ a < b := by rw [Int32.lt_iff_toInt_lt, hx, hy]
theorem zc_le {x y : Int32} {a b : Int} (hx : x.toInt = a) (hy : y.toInt = b) : x ≤ y ↔ a ≤ b := by rw [Int32.le_iff_toInt_le, hx, hy]
theorem z_icmp_eq (hC : zO x l g R cc nL own) {v1 v2 : Int32} (a b : Int) {off : Int} {tgt : Nat} (hd : decode cc pc = .ok (.if_icmp .eq off, 3)) (ht : (pc : Int) + off = (tgt : Int)) (hx1 : v1.toInt = a) (hy1 : v2.toInt = b) (kt : a = b → Z x u w tgt lv st) (kf : ¬ a = b → Z x u w (pc + 3) lv st) : Z x u w pc lv (.int v2 :: .int v1 :: st) := by
  obtain ⟨p, l', e, R', s, m, args, below, meth, c, g', A, H0, Q, nL'⟩ := x
  obtain ⟨rfl, rfl, rfl, rfl, ⟨hx, hb, hml, hown, hts⟩, hK, rfl, hA⟩ := hC
  exact fun H locs ls hP hD hS hl => lv_icmp_eq hx hb hd ht (fun z => kt ((zc_eq hx1 hy1).mp z) H locs ls hP hD hS hl) (fun z => kf (fun e => z ((zc_eq hx1 hy1).mpr e)) H locs ls hP hD hS hl)
theorem z_if_eq (hC : zO x l g R cc nL own) {v1 : Int32} (a : Int) {off : Int} {tgt : Nat} (hd : decode cc pc = .ok (.ifCond .eq off, 3)) (ht : (pc : Int) + off = (tgt : Int)) (hx1 : v1.toInt = a) (kt : a = 0 → Z x u w tgt lv st) (kf : ¬ a = 0 → Z x u w (pc + 3) lv st) : Z x u w pc lv (.int v1 :: st) := by
  obtain ⟨p, l', e, R', s, m, args, below, meth, c, g', A, H0, Q, nL'⟩ := x
  obtain ⟨rfl, rfl, rfl, rfl, ⟨hx, hb, hml, hown, hts⟩, hK, rfl, hA⟩ := hC
  have hy1 : (0 : Int32).toInt = 0 := rfl
  exact fun H locs ls hP hD hS hl => lv_if_eq hx hb hd ht (fun z => kt ((zc_eq hx1 hy1).mp z) H locs ls hP hD hS hl) (fun z => kf (fun e => z ((zc_eq hx1 hy1).mpr e)) H locs ls hP hD hS hl)
theorem z_icmp_ne (hC : zO x l g R cc nL own) {v1 v2 : Int32} (a b : Int) {off : Int} {tgt : Nat} (hd : decode cc pc = .ok (.if_icmp .ne off, 3)) (ht : (pc : Int) + off = (tgt : Int)) (hx1 : v1.toInt = a) (hy1 : v2.toInt = b) (kt : ¬ a = b → Z x u w tgt lv st) (kf : a = b → Z x u w (pc + 3) lv st) : Z x u w pc lv (.int v2 :: .int v1 :: st) := by
  obtain ⟨p, l', e, R', s, m, args, below, meth, c, g', A, H0, Q, nL'⟩ := x
  obtain ⟨rfl, rfl, rfl, rfl, ⟨hx, hb, hml, hown, hts⟩, hK, rfl, hA⟩ := hC
  exact fun H locs ls hP hD hS hl => lv_icmp_ne hx hb hd ht (fun z => kt (fun e => z ((zc_eq hx1 hy1).mpr e)) H locs ls hP hD hS hl) (fun z => kf ((zc_eq hx1 hy1).mp z) H locs ls hP hD hS hl)
theorem z_if_ne (hC : zO x l g R cc nL own) {v1 : Int32} (a : Int) {off : Int} {tgt : Nat} (hd : decode cc pc = .ok (.ifCond .ne off, 3)) (ht : (pc : Int) + off = (tgt : Int)) (hx1 : v1.toInt = a) (kt : ¬ a = 0 → Z x u w tgt lv st) (kf : a = 0 → Z x u w (pc + 3) lv st) : Z x u w pc lv (.int v1 :: st) := by
  obtain ⟨p, l', e, R', s, m, args, below, meth, c, g', A, H0, Q, nL'⟩ := x
  obtain ⟨rfl, rfl, rfl, rfl, ⟨hx, hb, hml, hown, hts⟩, hK, rfl, hA⟩ := hC
  have hy1 : (0 : Int32).toInt = 0 := rfl
  exact fun H locs ls hP hD hS hl => lv_if_ne hx hb hd ht (fun z => kt (fun e => z ((zc_eq hx1 hy1).mpr e)) H locs ls hP hD hS hl) (fun z => kf ((zc_eq hx1 hy1).mp z) H locs ls hP hD hS hl)
theorem z_icmp_lt (hC : zO x l g R cc nL own) {v1 v2 : Int32} (a b : Int) {off : Int} {tgt : Nat} (hd : decode cc pc = .ok (.if_icmp .lt off, 3)) (ht : (pc : Int) + off = (tgt : Int)) (hx1 : v1.toInt = a) (hy1 : v2.toInt = b) (kt : a < b → Z x u w tgt lv st) (kf : b ≤ a → Z x u w (pc + 3) lv st) : Z x u w pc lv (.int v2 :: .int v1 :: st) := by
  obtain ⟨p, l', e, R', s, m, args, below, meth, c, g', A, H0, Q, nL'⟩ := x
  obtain ⟨rfl, rfl, rfl, rfl, ⟨hx, hb, hml, hown, hts⟩, hK, rfl, hA⟩ := hC
  exact fun H locs ls hP hD hS hl => lv_icmp_lt hx hb hd ht (fun z => kt ((zc_lt hx1 hy1).mp z) H locs ls hP hD hS hl) (fun z => kf (Int.not_lt.mp fun e => z ((zc_lt hx1 hy1).mpr e)) H locs ls hP hD hS hl)
theorem z_if_lt (hC : zO x l g R cc nL own) {v1 : Int32} (a : Int) {off : Int} {tgt : Nat} (hd : decode cc pc = .ok (.ifCond .lt off, 3)) (ht : (pc : Int) + off = (tgt : Int)) (hx1 : v1.toInt = a) (kt : a < 0 → Z x u w tgt lv st) (kf : 0 ≤ a → Z x u w (pc + 3) lv st) : Z x u w pc lv (.int v1 :: st) := by
  obtain ⟨p, l', e, R', s, m, args, below, meth, c, g', A, H0, Q, nL'⟩ := x
  obtain ⟨rfl, rfl, rfl, rfl, ⟨hx, hb, hml, hown, hts⟩, hK, rfl, hA⟩ := hC
  have hy1 : (0 : Int32).toInt = 0 := rfl
  exact fun H locs ls hP hD hS hl => lv_if_lt hx hb hd ht (fun z => kt ((zc_lt hx1 hy1).mp z) H locs ls hP hD hS hl) (fun z => kf (Int.not_lt.mp fun e => z ((zc_lt hx1 hy1).mpr e)) H locs ls hP hD hS hl)
theorem z_icmp_ge (hC : zO x l g R cc nL own) {v1 v2 : Int32} (a b : Int) {off : Int} {tgt : Nat} (hd : decode cc pc = .ok (.if_icmp .ge off, 3)) (ht : (pc : Int) + off = (tgt : Int)) (hx1 : v1.toInt = a) (hy1 : v2.toInt = b) (kt : b ≤ a → Z x u w tgt lv st) (kf : a < b → Z x u w (pc + 3) lv st) : Z x u w pc lv (.int v2 :: .int v1 :: st) := by
  obtain ⟨p, l', e, R', s, m, args, below, meth, c, g', A, H0, Q, nL'⟩ := x
  obtain ⟨rfl, rfl, rfl, rfl, ⟨hx, hb, hml, hown, hts⟩, hK, rfl, hA⟩ := hC
  exact fun H locs ls hP hD hS hl => lv_icmp_ge hx hb hd ht (fun z => kt ((zc_le hy1 hx1).mp z) H locs ls hP hD hS hl) (fun z => kf (Int.not_le.mp fun e => z ((zc_le hy1 hx1).mpr e)) H locs ls hP hD hS hl)
theorem z_if_ge (hC : zO x l g R cc nL own) {v1 : Int32} (a : Int) {off : Int} {tgt : Nat} (hd : decode cc pc = .ok (.ifCond .ge off, 3)) (ht : (pc : Int) + off = (tgt : Int)) (hx1 : v1.toInt = a) (kt : 0 ≤ a → Z x u w tgt lv st) (kf : a < 0 → Z x u w (pc + 3) lv st) : Z x u w pc lv (.int v1 :: st) := by
  obtain ⟨p, l', e, R', s, m, args, below, meth, c, g', A, H0, Q, nL'⟩ := x
  obtain ⟨rfl, rfl, rfl, rfl, ⟨hx, hb, hml, hown, hts⟩, hK, rfl, hA⟩ := hC
  have hy1 : (0 : Int32).toInt = 0 := rfl
  exact fun H locs ls hP hD hS hl => lv_if_ge hx hb hd ht (fun z => kt ((zc_le hy1 hx1).mp z) H locs ls hP hD hS hl) (fun z => kf (Int.not_le.mp fun e => z ((zc_le hy1 hx1).mpr e)) H locs ls hP hD hS hl)
theorem z_icmp_gt (hC : zO x l g R cc nL own) {v1 v2 : Int32} (a b : Int) {off : Int} {tgt : Nat} (hd : decode cc pc = .ok (.if_icmp .gt off, 3)) (ht : (pc : Int) + off = (tgt : Int)) (hx1 : v1.toInt = a) (hy1 : v2.toInt = b) (kt : b < a → Z x u w tgt lv st) (kf : a ≤ b → Z x u w (pc + 3) lv st) : Z x u w pc lv (.int v2 :: .int v1 :: st) := by
  obtain ⟨p, l', e, R', s, m, args, below, meth, c, g', A, H0, Q, nL'⟩ := x
  obtain ⟨rfl, rfl, rfl, rfl, ⟨hx, hb, hml, hown, hts⟩, hK, rfl, hA⟩ := hC
  exact fun H locs ls hP hD hS hl => lv_icmp_gt hx hb hd ht (fun z => kt ((zc_lt hy1 hx1).mp z) H locs ls hP hD hS hl) (fun z => kf (Int.not_lt.mp fun e => z ((zc_lt hy1 hx1).mpr e)) H locs ls hP hD hS hl)
theorem z_if_gt (hC : zO x l g R cc nL own) {v1 : Int32} (a : Int) {off : Int} {tgt : Nat} (hd : decode cc pc = .ok (.ifCond .gt off, 3)) (ht : (pc : Int) + off = (tgt : Int)) (hx1 : v1.toInt = a) (kt : 0 < a → Z x u w tgt lv st) (kf : a ≤ 0 → Z x u w (pc + 3) lv st) : Z x u w pc lv (.int v1 :: st) := by
  obtain ⟨p, l', e, R', s, m, args, below, meth, c, g', A, H0, Q, nL'⟩ := x
  obtain ⟨rfl, rfl, rfl, rfl, ⟨hx, hb, hml, hown, hts⟩, hK, rfl, hA⟩ := hC
  have hy1 : (0 : Int32).toInt = 0 := rfl
  exact fun H locs ls hP hD hS hl => lv_if_gt hx hb hd ht (fun z => kt ((zc_lt hy1 hx1).mp z) H locs ls hP hD hS hl) (fun z => kf (Int.not_lt.mp fun e => z ((zc_lt hy1 hx1).mpr e)) H locs ls hP hD hS hl)
theorem z_icmp_le (hC : zO x l g R cc nL own) {v1 v2 : Int32} (a b : Int) {off : Int} {tgt : Nat} (hd : decode cc pc = .ok (.if_icmp .le off, 3)) (ht : (pc : Int) + off = (tgt : Int)) (hx1 : v1.toInt = a) (hy1 : v2.toInt = b) (kt : a ≤ b → Z x u w tgt lv st) (kf : b < a → Z x u w (pc + 3) lv st) : Z x u w pc lv (.int v2 :: .int v1 :: st) := by
  obtain ⟨p, l', e, R', s, m, args, below, meth, c, g', A, H0, Q, nL'⟩ := x
  obtain ⟨rfl, rfl, rfl, rfl, ⟨hx, hb, hml, hown, hts⟩, hK, rfl, hA⟩ := hC
  exact fun H locs ls hP hD hS hl => lv_icmp_le hx hb hd ht (fun z => kt ((zc_le hx1 hy1).mp z) H locs ls hP hD hS hl) (fun z => kf (Int.not_le.mp fun e => z ((zc_le hx1 hy1).mpr e)) H locs ls hP hD hS hl)
theorem z_if_le (hC : zO x l g R cc nL own) {v1 : Int32} (a : Int) {off : Int} {tgt : Nat} (hd : decode cc pc = .ok (.ifCond .le off, 3)) (ht : (pc : Int) + off = (tgt : Int)) (hx1 : v1.toInt = a) (kt : a ≤ 0 → Z x u w tgt lv st) (kf : 0 < a → Z x u w (pc + 3) lv st) : Z x u w pc lv (.int v1 :: st) := by
  obtain ⟨p, l', e, R', s, m, args, below, meth, c, g', A, H0, Q, nL'⟩ := x
  obtain ⟨rfl, rfl, rfl, rfl, ⟨hx, hb, hml, hown, hts⟩, hK, rfl, hA⟩ := hC
  have hy1 : (0 : Int32).toInt = 0 := rfl
  exact fun H locs ls hP hD hS hl => lv_if_le hx hb hd ht (fun z => kt ((zc_le hx1 hy1).mp z) H locs ls hP hD hS hl) (fun z => kf (Int.not_le.mp fun e => z ((zc_le hx1 hy1).mpr e)) H locs ls hP hD hS hl)
theorem z_ifeqB (hC : zO x l g R cc nL own) {v : Bool} {off : Int} {tgt : Nat} (hd : decode cc pc = .ok (.ifCond .eq off, 3)) (ht : (pc : Int) + off = (tgt : Int)) (kt : v = false → Z x u w tgt lv st) (kf : v = true → Z x u w (pc + 3) lv st) : Z x u w pc lv (.int (iI (bI v)) :: st) :=
  z_if_eq hC (bI v) hd ht (iI_t (by have := bI_rng v; omega)) (fun z => kt (bI_0.mp z)) (fun z => kf (by cases v with | true => rfl | false => exact absurd rfl z))
theorem z_ifneB (hC : zO x l g R cc nL own) {v : Bool} {off : Int} {tgt : Nat} (hd : decode cc pc = .ok (.ifCond .ne off, 3)) (ht : (pc : Int) + off = (tgt : Int)) (kt : v = true → Z x u w tgt lv st) (kf : v = false → Z x u w (pc + 3) lv st) : Z x u w pc lv (.int (iI (bI v)) :: st) :=
  z_if_ne hC (bI v) hd ht (iI_t (by have := bI_rng v; omega)) (fun z => kt (by cases v with | true => rfl | false => exact absurd rfl z)) (fun z => kf (bI_0.mp z))
theorem z_get (hC : zO x l g R cc nL own) {ref C : String} {T : u_T} {N ci index : Nat} {a : Nat} {fs : List Value} {v : Value} (hin : ∀ w ∈ u_ws C T N, w ∈ zTB) (q0 : Nat) (he : w[q0]? = some (a, .inr (ci, fs))) (hc : vwCl[ci]? = some (C, T, N)) (k : Nat) (hk : k < N) (hlink : Cond.fieldLink own index ref (T k).2.1 (T k).2.2.1 ∈ zTB) (hsame : ref = (T k).1 ∨ Cond.sameField ref (T k).1 (T k).2.1 (T k).2.2.1 ∈ zTB) (hv : fs[k]? = some v) (hd : decode cc pc = .ok (.getfield index, 3)) (kk : Z x u w (pc + 3) lv (v :: st)) : Z x u w pc lv (.ref a :: st) := by
  obtain ⟨p, l', e, R', s, m, args, below, meth, c, g', A, H0, Q, nL'⟩ := x
  obtain ⟨rfl, rfl, rfl, rfl, ⟨hx, hb, hml, hown, hts⟩, hK, rfl, hA⟩ := hC
  refine fun H locs ls hP hD hS hl => va_get hx hb hts hin hown hK.1 hP q0 he hc k hk (hts _ hlink) (fun x9 h9 => ?_) hv hd (kk H locs ls hP hD hS hl)
  rcases hsame with h | h
  · rw [h]; exact h9
  · exact u_same (hts _ h) x9 h9
theorem z_getN (hC : zO x l g R cc nL own) {ref C : String} {T : u_T} {N ci index : Nat} {a : Nat} {fs : List Value} {v : Value} (hin : ∀ w ∈ u_ws C T N, w ∈ zTB) (q0 : Nat) (he : w[q0]? = some (a, .inr (ci, fs))) (hc : vwCl[ci]? = some (C, T, N)) (k : Nat) (hk : k < N) {host : String} (hlink : (own, index, ref, (T k).2.1, (T k).2.2.1, host) ∈ zNF) (href : ref = (T k).1) (hv : fs[k]? = some v) (hd : decode cc pc = .ok (.getfield index, 3)) (kk : Z x u w (pc + 3) lv (v :: st)) : Z x u w pc lv (.ref a :: st) := by
  obtain ⟨p, l', e, R', s, m, args, below, meth, c, g', A, H0, Q, nL'⟩ := x
  obtain ⟨rfl, rfl, rfl, rfl, ⟨hx, hb, hml, hown, hts⟩, hK, rfl, hA⟩ := hC
  exact fun H locs ls hP hD hS hl => va_getN hx hb hts hin hown hK.1 hP q0 he hc k hk (va_Nw.use rfl (hK.2.1.1 _ hlink)) (fun x9 h9 => by rw [href]; exact h9) hv hd (kk H locs ls hP hD hS hl)
theorem z_put (hC : zO x l g R cc nL own) {ref C : String} {T : u_T} {N ci index : Nat} {a : Nat} {fs : List Value} {v : Value} {ty : FieldType} {w' : va_W} (hin : ∀ w ∈ u_ws C T N, w ∈ zTB) (ty0 : Nat → FieldType) (hty : ∀ k, k < N → parseFieldDescriptor (T k).2.2.1 = some (ty0 k)) (hnm : ∀ a, a < N → ∀ b, b < N → a ≠ b → (T a).2.1 ≠ (T b).2.1) (q0 : Nat) (he : w[q0]? = some (a, .inr (ci, fs))) (hc : vwCl[ci]? = some (C, T, N)) (k : Nat) (hk : k < N) (hlink : Cond.fieldLink own index ref (T k).2.1 (T k).2.2.1 ∈ zTB) (href : ref = (T k).1) (hfin : (T k).2.2.2 = false) (hdsc : ty0 k = ty) (hn : narrow ty v = v) (hfit : fits ty v = true) (hl0 : k < fs.length) (hw : w.set q0 (a, .inr (ci, fs.set k v)) = w') (hd : decode cc pc = .ok (.putfield index, 3)) (kk : Z x u w' (pc + 3) lv st) : Z x u w pc lv (v :: .ref a :: st) := by
  obtain ⟨p, l', e, R', s, m, args, below, meth, c, g', A, H0, Q, nL'⟩ := x
  obtain ⟨rfl, rfl, rfl, rfl, ⟨hx, hb, hml, hown, hts⟩, hK, rfl, hA⟩ := hC
  subst hw
  exact fun H locs ls hP hD hS hl => va_put (ty := ty) hx hb hts hin ty0 hty hnm hown hK.1 hP hD hS q0 he hc k hk (hts _ hlink) (fun x9 h9 => by rw [href]; exact h9) hfin (by rw [← hdsc]; exact hty k hk) hn hfit hl0 hd (fun H' locs' hP hD hS => kk H' locs' ls hP hD hS hl)
theorem z_iald (hC : zO x l g R cc nL own) {a n : Nat} {cA : ClassId} {f : Nat → Int32} {i : Int} (q0 t0 : Nat) (he : w[q0]? = some (a, .inl (cA, n, .inl f))) (ht : (zty g.2.1)[t0]? = some (cA, .int)) (k : Nat) (hk : i = k) (hlt : k < n) (hn : n < 2147483648) (hd : decode cc pc = .ok (.iaload, 1)) (kk : Z x u w (pc + 1) lv (.int (f k) :: st)) : Z x u w pc lv (.int (iI i) :: .ref a :: st) := by
  obtain ⟨p, l', e, R', s, m, args, below, meth, c, g', A, H0, Q, nL'⟩ := x
  obtain ⟨rfl, rfl, rfl, rfl, ⟨hx, hb, hml, hown, hts⟩, hK, rfl, hA⟩ := hC
  have hcl := iI_cl hk (by omega)
  exact fun H locs ls hP hD hS hl => va_iald hx hb hK.1 hP q0 t0 he ht (iI_in (by omega) (by omega) hn) hd (by rw [hcl]; exact kk H locs ls hP hD hS hl)
theorem z_zald (hC : zO x l g R cc nL own) {a n : Nat} {cA : ClassId} {f : Nat → Int32} {i : Int} (q0 t0 : Nat) (he : w[q0]? = some (a, .inl (cA, n, .inl f))) (ht : (zty g.2.1)[t0]? = some (cA, .boolean)) (k : Nat) (hk : i = k) (hlt : k < n) (hn : n < 2147483648) (hd : decode cc pc = .ok (.baload, 1)) (kk : Z x u w (pc + 1) lv (.int (f k) :: st)) : Z x u w pc lv (.int (iI i) :: .ref a :: st) := by
  obtain ⟨p, l', e, R', s, m, args, below, meth, c, g', A, H0, Q, nL'⟩ := x
  obtain ⟨rfl, rfl, rfl, rfl, ⟨hx, hb, hml, hown, hts⟩, hK, rfl, hA⟩ := hC
  have hcl := iI_cl hk (by omega)
  exact fun H locs ls hP hD hS hl => va_zald hx hb hK.1 hP q0 t0 he ht (iI_in (by omega) (by omega) hn) hd (by rw [hcl]; exact kk H locs ls hP hD hS hl)
theorem z_lald (hC : zO x l g R cc nL own) {a n : Nat} {cA : ClassId} {f : Nat → Int64} {i : Int} (q0 t0 : Nat) (he : w[q0]? = some (a, .inl (cA, n, .inr (.inl f)))) (ht : (zty g.2.1)[t0]? = some (cA, .long)) (k : Nat) (hk : i = k) (hlt : k < n) (hn : n < 2147483648) (hd : decode cc pc = .ok (.laload, 1)) (kk : Z x u w (pc + 1) lv (.long (f k) :: st)) : Z x u w pc lv (.int (iI i) :: .ref a :: st) := by
  obtain ⟨p, l', e, R', s, m, args, below, meth, c, g', A, H0, Q, nL'⟩ := x
  obtain ⟨rfl, rfl, rfl, rfl, ⟨hx, hb, hml, hown, hts⟩, hK, rfl, hA⟩ := hC
  have hcl := iI_cl hk (by omega)
  exact fun H locs ls hP hD hS hl => va_lald hx hb hK.1 hP q0 t0 he ht (iI_in (by omega) (by omega) hn) hd (by rw [hcl]; exact kk H locs ls hP hD hS hl)
theorem z_iast (hC : zO x l g R cc nL own) {a n : Nat} {cA : ClassId} {f : Nat → Int32} {i : Int} {v : Int32} {w' : va_W} (q0 t0 : Nat) (he : w[q0]? = some (a, .inl (cA, n, .inl f))) (ht : (zty g.2.1)[t0]? = some (cA, .int)) (k : Nat) (hk : i = k) (hlt : k < n) (hn : n < 2147483648) (hw : w.set q0 (a, .inl (cA, n, .inl (upd f k v))) = w') (hd : decode cc pc = .ok (.iastore, 1)) (kk : Z x u w' (pc + 1) lv st) : Z x u w pc lv (.int v :: .int (iI i) :: .ref a :: st) := by
  obtain ⟨p, l', e, R', s, m, args, below, meth, c, g', A, H0, Q, nL'⟩ := x
  obtain ⟨rfl, rfl, rfl, rfl, ⟨hx, hb, hml, hown, hts⟩, hK, rfl, hA⟩ := hC
  have hcl := iI_cl hk (by omega)
  subst hw
  exact fun H locs ls hP hD hS hl => va_iast hx hb hK.1 hP hD hS q0 t0 he ht (iI_in (by omega) (by omega) hn) hd (fun H' locs' hP hD hS => by rw [hcl] at hP hD; exact kk H' locs' ls hP hD hS hl)
theorem z_last (hC : zO x l g R cc nL own) {a n : Nat} {cA : ClassId} {f : Nat → Int64} {i : Int} {v : Int64} {w' : va_W} (q0 t0 : Nat) (he : w[q0]? = some (a, .inl (cA, n, .inr (.inl f)))) (ht : (zty g.2.1)[t0]? = some (cA, .long)) (k : Nat) (hk : i = k) (hlt : k < n) (hn : n < 2147483648) (hw : w.set q0 (a, .inl (cA, n, .inr (.inl (vp_updL f k v)))) = w') (hd : decode cc pc = .ok (.lastore, 1)) (kk : Z x u w' (pc + 1) lv st) : Z x u w pc lv (.long v :: .int (iI i) :: .ref a :: st) := by
  obtain ⟨p, l', e, R', s, m, args, below, meth, c, g', A, H0, Q, nL'⟩ := x
  obtain ⟨rfl, rfl, rfl, rfl, ⟨hx, hb, hml, hown, hts⟩, hK, rfl, hA⟩ := hC
  have hcl := iI_cl hk (by omega)
  subst hw
  exact fun H locs ls hP hD hS hl => va_last hx hb hK.1 hP hD hS q0 t0 he ht (iI_in (by omega) (by omega) hn) hd (fun H' locs' hP hD hS => by rw [hcl] at hP hD; exact kk H' locs' ls hP hD hS hl)
theorem z_zast (hC : zO x l g R cc nL own) {a n : Nat} {cA : ClassId} {f : Nat → Int32} {i : Int} {v : Bool} {w' : va_W} (q0 t0 : Nat) (he : w[q0]? = some (a, .inl (cA, n, .inl f))) (ht : (zty g.2.1)[t0]? = some (cA, .boolean)) (k : Nat) (hk : i = k) (hlt : k < n) (hn : n < 2147483648) (hw : w.set q0 (a, .inl (cA, n, .inl (upd f k (iI (bI v))))) = w') (hd : decode cc pc = .ok (.bastore, 1)) (kk : Z x u w' (pc + 1) lv st) : Z x u w pc lv (.int (iI (bI v)) :: .int (iI i) :: .ref a :: st) := by
  obtain ⟨p, l', e, R', s, m, args, below, meth, c, g', A, H0, Q, nL'⟩ := x
  obtain ⟨rfl, rfl, rfl, rfl, ⟨hx, hb, hml, hown, hts⟩, hK, rfl, hA⟩ := hC
  have hcl := iI_cl hk (by omega)
  subst hw
  exact fun H locs ls hP hD hS hl => va_zast hx hb hK.1 hP hD hS q0 t0 he ht (iI_in (by omega) (by omega) hn) hd (fun H' locs' hP hD hS => by rw [hcl, bI_vnar] at hP hD; exact kk H' locs' ls hP hD hS hl)
theorem z_aald (hC : zO x l g R cc nL own) {a n r : Nat} {cA : ClassId} {C : String} {f : Nat → Option Nat} {i : Int} (q0 t0 : Nat) (he : w[q0]? = some (a, .inl (cA, n, .inr (.inr (.inr (.inr f)))))) (ht : (zty g.2.1)[t0]? = some (cA, .object C)) (k : Nat) (hk : i = k) (hlt : k < n) (hn : n < 2147483648) (hr : f k = some r) (hd : decode cc pc = .ok (.aaload, 1)) (kk : Z x u w (pc + 1) lv (.ref r :: st)) : Z x u w pc lv (.int (iI i) :: .ref a :: st) := by
  obtain ⟨p, l', e, R', s, m, args, below, meth, c, g', A, H0, Q, nL'⟩ := x
  obtain ⟨rfl, rfl, rfl, rfl, ⟨hx, hb, hml, hown, hts⟩, hK, rfl, hA⟩ := hC
  have hcl := iI_cl hk (by omega)
  exact fun H locs ls hP hD hS hl => va_aldq hx hb hK.1 hP q0 t0 he ht (iI_in (by omega) (by omega) hn) hd (by rw [hcl, hr]; exact kk H locs ls hP hD hS hl)
theorem z_alen (hC : zO x l g R cc nL own) {a : Nat} {cA : ClassId} {y : vp_A} {ty : FieldType} (q0 t0 : Nat) (he : w[q0]? = some (a, .inl (cA, y))) (ht : (zty g.2.1)[t0]? = some (cA, ty)) (hd : decode cc pc = .ok (.arraylength, 1)) (kk : Z x u w (pc + 1) lv (.int (iI y.1) :: st)) : Z x u w pc lv (.ref a :: st) := by
  obtain ⟨p, l', e, R', s, m, args, below, meth, c, g', A, H0, Q, nL'⟩ := x
  obtain ⟨rfl, rfl, rfl, rfl, ⟨hx, hb, hml, hown, hts⟩, hK, rfl, hA⟩ := hC
  exact fun H locs ls hP hD hS hl => va_alen hx hb hK.1 hP q0 t0 he ht (Int32.ofInt_eq_ofNat (n := y.1)).symm hd (kk H locs ls hP hD hS hl)
theorem z_iconstN (hC : zO x l g R cc nL own) {n : Int} (k0 : Nat) (hd : decode cc pc = .ok (.iconst n, 1)) (hk0 : n = (k0 : Int)) (k : Z x u w (pc + 1) lv (.int (iI ((k0 : Nat) : Int)) :: st)) : Z x u w pc lv (st) := by
  obtain ⟨p, l', e, R', s, m, args, below, meth, c, g', A, H0, Q, nL'⟩ := x
  obtain ⟨rfl, rfl, rfl, rfl, ⟨hx, hb, hml, hown, hts⟩, hK, rfl, hA⟩ := hC
  exact fun H locs ls hP hD hS hl => lv_iconst (v := iI ((k0 : Nat) : Int)) hx hb hd (by rw [hk0]; rfl) (k H locs ls hP hD hS hl)
theorem z_ldc (hC : zO x l g R cc nL own) {a : Int} {v : Int32} {index : Nat} (hm : Cond.constant own index v ∈ zTB) (hv : v = iI a) (hd : decode cc pc = .ok (.ldc index, 2)) (k : Z x u w (pc + 2) lv (.int (iI a) :: st)) : Z x u w pc lv st := by
  obtain ⟨p, l', e, R', s, m, args, below, meth, c, g', A, H0, Q, nL'⟩ := x
  obtain ⟨rfl, rfl, rfl, rfl, ⟨hx, hb, hml, hown, hts⟩, hK, rfl, hA⟩ := hC
  subst hv
  exact fun H locs ls hP hD hS hl => lv_ldc hx hb hown (hts _ hm) hd (k H locs ls hP hD hS hl)
theorem z_iincN (hC : zO x l g R cc nL own) {i a : Nat} {n : Int} {lv' : List (Nat × Value)} (k0 : Nat) (hd : decode cc pc = .ok (.iinc i n, 3)) (hk0 : n = (k0 : Int)) (j : Nat) (hj : lv[j]? = some (i, .int (iI ((a : Nat) : Int)))) (hn : i < nL) (hv : (i, Value.int (iI ((a + k0 : Nat) : Int))) :: lv.filter (fun q => !(q.1 == i) && !(q.1 + 1 == i && q.2.category == 2)) = lv') (k : Z x u w (pc + 3) lv' st) : Z x u w pc lv st := by
  subst hk0
  exact z_iinc hC hd j hj hn hv k
theorem z_idecN (hC : zO x l g R cc nL own) {i a : Nat} {lv' : List (Nat × Value)} (hd : decode cc pc = .ok (.iinc i (-1), 3)) (j : Nat) (hj : lv[j]? = some (i, .int (iI ((a : Nat) : Int)))) (ha : 1 ≤ a) (hn : i < nL) (hv : (i, Value.int (iI ((a - 1 : Nat) : Int))) :: lv.filter (fun q => !(q.1 == i) && !(q.1 + 1 == i && q.2.category == 2)) = lv') (k : Z x u w (pc + 3) lv' st) : Z x u w pc lv st := by
  have e : ((a - 1 : Nat) : Int) = (a : Int) + (-1) := by omega
  rw [e] at hv
  exact z_iinc hC hd j hj hn hv k
theorem z_iaddN (hC : zO x l g R cc nL own) {a b : Nat} (hd : decode cc pc = .ok (.iadd, 1)) (k : Z x u w (pc + 1) lv (.int (iI ((a + b : Nat) : Int)) :: st)) : Z x u w pc lv (.int (iI ((b : Nat) : Int)) :: .int (iI ((a : Nat) : Int)) :: st) := z_iadd hC hd k
theorem z_imulN (hC : zO x l g R cc nL own) {a b : Nat} (hd : decode cc pc = .ok (.imul, 1)) (k : Z x u w (pc + 1) lv (.int (iI ((a * b : Nat) : Int)) :: st)) : Z x u w pc lv (.int (iI ((b : Nat) : Int)) :: .int (iI ((a : Nat) : Int)) :: st) := z_imul hC hd (by rw [← Int.natCast_mul]; exact k)
theorem z_isubN (hC : zO x l g R cc nL own) {a b : Nat} (hd : decode cc pc = .ok (.isub, 1)) (hle : b ≤ a) (k : Z x u w (pc + 1) lv (.int (iI ((a - b : Nat) : Int)) :: st)) : Z x u w pc lv (.int (iI ((b : Nat) : Int)) :: .int (iI ((a : Nat) : Int)) :: st) := z_isub hC hd (by rw [show (a : Int) - (b : Int) = ((a - b : Nat) : Int) by omega]; exact k)
theorem z_RI {v : Int32} (k : Z x u w pc lv (.int (iI v.toInt) :: st)) : Z x u w pc lv (.int v :: st) := by rw [iI_of] at k; exact k
theorem z_RI2 {v : Int32} {y : Value} (k : Z x u w pc lv (y :: .int (iI v.toInt) :: st)) : Z x u w pc lv (y :: .int v :: st) := by rw [iI_of] at k; exact k
theorem z_icmp_eqR (hC : zO x l g R cc nL own) {v1 v2 : Int32} {off : Int} {tgt : Nat} (hd : decode cc pc = .ok (.if_icmp .eq off, 3)) (ht : (pc : Int) + off = (tgt : Int)) (kt : v1 = v2 → Z x u w tgt lv st) (kf : ¬ v1 = v2 → Z x u w (pc + 3) lv st) : Z x u w pc lv (.int v2 :: .int v1 :: st) := by
  obtain ⟨p, l', e, R', s, m, args, below, meth, c, g', A, H0, Q, nL'⟩ := x
  obtain ⟨rfl, rfl, rfl, rfl, ⟨hx, hb, hml, hown, hts⟩, hK, rfl, hA⟩ := hC
  exact fun H locs ls hP hD hS hl => lv_icmp_eq hx hb hd ht (fun z => kt z H locs ls hP hD hS hl) (fun z => kf z H locs ls hP hD hS hl)
theorem z_icmp_neR (hC : zO x l g R cc nL own) {v1 v2 : Int32} {off : Int} {tgt : Nat} (hd : decode cc pc = .ok (.if_icmp .ne off, 3)) (ht : (pc : Int) + off = (tgt : Int)) (kt : ¬ v1 = v2 → Z x u w tgt lv st) (kf : v1 = v2 → Z x u w (pc + 3) lv st) : Z x u w pc lv (.int v2 :: .int v1 :: st) := by
  obtain ⟨p, l', e, R', s, m, args, below, meth, c, g', A, H0, Q, nL'⟩ := x
  obtain ⟨rfl, rfl, rfl, rfl, ⟨hx, hb, hml, hown, hts⟩, hK, rfl, hA⟩ := hC
  exact fun H locs ls hP hD hS hl => lv_icmp_ne hx hb hd ht (fun z => kt z H locs ls hP hD hS hl) (fun z => kf z H locs ls hP hD hS hl)
theorem z_lcmp (hC : zO x l g R cc nL own) {a b : Int64} (hd : decode cc pc = .ok (.lcmp, 1)) (k : Z x u w (pc + 1) lv (.int (lg_cmp a b) :: st)) : Z x u w pc lv (.long b :: .long a :: st) := by
  obtain ⟨p, l', e, R', s, m, args, below, meth, c, g', A, H0, Q, nL'⟩ := x
  obtain ⟨rfl, rfl, rfl, rfl, ⟨hx, hb, hml, hown, hts⟩, hK, rfl, hA⟩ := hC
  exact fun H locs ls hP hD hS hl => W.lcmp hx hb hd (k H locs ls hP hD hS hl)
theorem zb_t {b : Bool} (h : b = true) : [Value.int (iI ((1 : Nat) : Int))] = [Value.int (iI (bI b))] := by subst h; rfl
theorem zb_f {b : Bool} (h : b = false) : [Value.int (iI ((0 : Nat) : Int))] = [Value.int (iI (bI b))] := by subst h; rfl
theorem zb_e {a b : Bool} (h : a = b) : [Value.int (iI (bI a))] = [Value.int (iI (bI b))] := by rw [h]
theorem z_ialdN (hC : zO x l g R cc nL own) {a n : Nat} {cA : ClassId} {h : Nat → Nat} {i : Int} (q0 t0 : Nat) (he : w[q0]? = some (a, .inl (cA, n, .inl (nF h)))) (ht : (zty g.2.1)[t0]? = some (cA, .int)) (k : Nat) (hk : i = k) (hlt : k < n) (hn : n < 2147483648) (hd : decode cc pc = .ok (.iaload, 1)) (kk : Z x u w (pc + 1) lv (.int (iI ((h k : Nat) : Int)) :: st)) : Z x u w pc lv (.int (iI i) :: .ref a :: st) := z_iald hC q0 t0 he ht k hk hlt hn hd kk
theorem z_zaldB (hC : zO x l g R cc nL own) {a n : Nat} {cA : ClassId} {h : Nat → Bool} {i : Int} (q0 t0 : Nat) (he : w[q0]? = some (a, .inl (cA, n, .inl (bF h)))) (ht : (zty g.2.1)[t0]? = some (cA, .boolean)) (k : Nat) (hk : i = k) (hlt : k < n) (hn : n < 2147483648) (hd : decode cc pc = .ok (.baload, 1)) (kk : Z x u w (pc + 1) lv (.int (iI (bI (h k))) :: st)) : Z x u w pc lv (.int (iI i) :: .ref a :: st) := z_zald hC q0 t0 he ht k hk hlt hn hd kk
theorem z_iastN (hC : zO x l g R cc nL own) {a n : Nat} {cA : ClassId} {h : Nat → Nat} {i : Int} {v : Nat} {w' : va_W} (q0 t0 : Nat) (he : w[q0]? = some (a, .inl (cA, n, .inl (nF h)))) (ht : (zty g.2.1)[t0]? = some (cA, .int)) (k : Nat) (hk : i = k) (hlt : k < n) (hn : n < 2147483648) (hw : w.set q0 (a, .inl (cA, n, .inl (nF (up h k v)))) = w') (hd : decode cc pc = .ok (.iastore, 1)) (kk : Z x u w' (pc + 1) lv st) : Z x u w pc lv (.int (iI ((v : Nat) : Int)) :: .int (iI i) :: .ref a :: st) := z_iast hC q0 t0 he ht k hk hlt hn (by rw [upd_nF]; exact hw) hd kk
theorem z_zastB (hC : zO x l g R cc nL own) {a n : Nat} {cA : ClassId} {h : Nat → Bool} {i : Int} {v : Bool} {w' : va_W} (q0 t0 : Nat) (he : w[q0]? = some (a, .inl (cA, n, .inl (bF h)))) (ht : (zty g.2.1)[t0]? = some (cA, .boolean)) (k : Nat) (hk : i = k) (hlt : k < n) (hn : n < 2147483648) (hw : w.set q0 (a, .inl (cA, n, .inl (bF (up h k v)))) = w') (hd : decode cc pc = .ok (.bastore, 1)) (kk : Z x u w' (pc + 1) lv st) : Z x u w pc lv (.int (iI (bI v)) :: .int (iI i) :: .ref a :: st) := z_zast hC q0 t0 he ht k hk hlt hn (by rw [upd_bF]; exact hw) hd kk
/-! ===== calls ===== -/
/-- the world w with the cells at the places put anew -/
def zset (w : va_W) : List Nat → va_W → va_W
  | i :: is, e :: es => zset (w.set i e) is es
  | _, _ => w
theorem zset_at : ∀ (is : List Nat) (es : va_W) (w : va_W) (k : Nat) (q : Nat × va_E), (zset w is es)[k]? = some q → (∃ j : Nat, is[j]? = some k ∧ es[j]? = some q) ∨ (k ∉ is ∧ w[k]? = some q) ∨ (∃ j : Nat, is[j]? = some k ∧ es.length ≤ j ∧ w[k]? = some q)
  | [], _, w, k, q, h => Or.inr (Or.inl ⟨List.not_mem_nil, by simpa [zset] using h⟩)
  | i :: is, [], w, k, q, h => by
    by_cases hk : k ∈ i :: is
    · obtain ⟨j, hj⟩ := List.getElem?_of_mem hk
      exact Or.inr (Or.inr ⟨j, hj, Nat.zero_le _, h⟩)
    · exact Or.inr (Or.inl ⟨hk, h⟩)
  | i :: is, e :: es, w, k, q, h => by
    rw [zset] at h
    rcases zset_at is es _ k q h with ⟨j, h1, h2⟩ | ⟨h1, h2⟩ | ⟨j, h1, h2, h3⟩
    · exact Or.inl ⟨j + 1, h1, h2⟩
    · by_cases hki : k = i
      · subst hki
        rw [List.getElem?_set] at h2
        by_cases hl : k < w.length
        · simp [hl] at h2
          exact Or.inl ⟨0, rfl, by rw [← h2]; rfl⟩
        · simp [hl] at h2
      · rw [List.getElem?_set_ne (Ne.symm hki)] at h2
        exact Or.inr (Or.inl ⟨by simp [hki, h1], h2⟩)
    · by_cases hki : k = i
      · subst hki
        rw [List.getElem?_set] at h3
        by_cases hl : k < w.length
        · simp [hl] at h3
          exact Or.inl ⟨0, rfl, by rw [← h3]; rfl⟩
        · simp [hl] at h3
      · rw [List.getElem?_set_ne (Ne.symm hki)] at h3
        exact Or.inr (Or.inr ⟨j + 1, h1, by simp; omega, h3⟩)
theorem zset_fst {is : List Nat} {w wc w1 : va_W} (his : is.map (fun i => w[i]?) = wc.map some) (hf : w1.map Prod.fst = wc.map Prod.fst) {k : Nat} {q : Nat × va_E} (h : (zset w is w1)[k]? = some q) : ∃ q0, w[k]? = some q0 ∧ q0.1 = q.1 := by
  rcases zset_at is w1 w k q h with ⟨j, h1, h2⟩ | ⟨h1, h2⟩ | ⟨j, h1, h2, h3⟩
  · have hj : (is.map (fun i => w[i]?))[j]? = some (w[k]?) := by rw [List.getElem?_map, h1]; rfl
    rw [his, List.getElem?_map] at hj
    cases hc : wc[j]? with
    | none => rw [hc] at hj; cases hj
    | some q0 =>
      rw [hc] at hj
      have e1 : some q0 = w[k]? := Option.some.inj hj
      refine ⟨q0, e1.symm, ?_⟩
      have e2 : (wc.map Prod.fst)[j]? = some q0.1 := by rw [List.getElem?_map, hc]; rfl
      rw [← hf, List.getElem?_map, h2] at e2
      exact (Option.some.inj e2).symm
  · exact ⟨q, h2, rfl⟩
  · exact ⟨q, h3, rfl⟩
theorem zset_P {D : va_G} {cl : List vw_C} {A : Nat → Prop} {is : List Nat} {w wc w1 : va_W} {H H1 : Heap} (hP : va_P D cl w H) (hD : va_D A w) (his : is.map (fun i => w[i]?) = wc.map some) (hf : w1.map Prod.fst = wc.map Prod.fst) (hP1 : va_P D cl w1 H1) (hk : ∀ q : Nat, q < H.size → ¬ q ∈ wc.map Prod.fst → H1[q]? = H[q]?) : va_P D cl (zset w is w1) H1 := by
  have hlen : is.length = wc.length := by have := congrArg List.length his; simpa using this
  have hlen1 : w1.length = wc.length := by have := congrArg List.length hf; simpa using this
  intro k q hq
  rcases zset_at is w1 w k q hq with ⟨j, h1, h2⟩ | ⟨h1, h2⟩ | ⟨j, h1, h2, h3⟩
  · exact hP1 j q h2
  · refine (hP k q h2).kept (hk q.1 (hP k q h2).lt (fun hm => h1 ?_))
    obtain ⟨e, he, he2⟩ := List.mem_map.mp hm
    obtain ⟨j, hj⟩ := List.getElem?_of_mem he
    have hj2 : (is.map (fun i => w[i]?))[j]? = some (some e) := by rw [his, List.getElem?_map, hj]; rfl
    rw [List.getElem?_map] at hj2
    cases hi : is[j]? with
    | none => rw [hi] at hj2; cases hj2
    | some i =>
      rw [hi] at hj2
      have e1 : w[i]? = some e := Option.some.inj hj2
      have e2 := hD.1 i k e q e1 h2 he2
      subst e2
      exact List.mem_of_getElem? hi
  · have := (List.getElem?_eq_some_iff.mp h1).1
    omega
theorem zset_D {A : Nat → Prop} {is : List Nat} {w wc w1 : va_W} (hD : va_D A w) (his : is.map (fun i => w[i]?) = wc.map some) (hf : w1.map Prod.fst = wc.map Prod.fst) : va_D A (zset w is w1) := by
  refine ⟨fun i j p q h1 h2 h3 => ?_, fun k q h => ?_⟩
  · obtain ⟨p0, a1, a2⟩ := zset_fst his hf h1
    obtain ⟨q0, b1, b2⟩ := zset_fst his hf h2
    exact hD.1 i j p0 q0 a1 b1 (by rw [a2, b2, h3])
  · obtain ⟨p0, a1, a2⟩ := zset_fst his hf h
    rw [← a2]
    exact hD.2 k p0 a1
theorem zsub_D {A B : Nat → Prop} {is : List Nat} {w wc : va_W} (hD : va_D A w) (hAB : ∀ q, A q → B q) (hnd : va_nd is = true) (his : is.map (fun i => w[i]?) = wc.map some) : va_D B wc := (hD.sub is hnd his).weaken (fun _ _ _ h => hAB _ h)
theorem zsub_P {D : va_G} {cl : List vw_C} {is : List Nat} {w wc : va_W} {H : Heap} (hP : va_P D cl w H) (his : is.map (fun i => w[i]?) = wc.map some) : va_P D cl wc H := by
  intro k q hk
  have h1 : (is.map (fun i => w[i]?))[k]? = some (some q) := by rw [his, List.getElem?_map, hk]; rfl
  rw [List.getElem?_map] at h1
  cases hi : is[k]? with
  | none => rw [hi] at h1; cases h1
  | some i => rw [hi] at h1; exact hP i q (Option.some.inj h1)

/-- behind any call -/
theorem z_back {p : Program} {e : Env} {s : State} {m : MethodId} {args : Array Value} {below : List Frame} {meth : Method} {c : Code} {A : Nat → Prop} {Q : State → Prop} {H : Heap} {locs : List Loc} {ls : Array Slot} {rest st0 : List Value} {is : List Nat} {wc w1 w' : va_W} {r : Option Value}
    (hr : va_Run p l e R s m args below meth c H locs u.1 u.2 0 0 (F0 m pc ls st0) rest (fun st o t => o = .returned r ∧ va_P g.1 vwCl w1 t.heap ∧ va_F (fun q => q ∈ wc.map Prod.fst) st t) (fun q => q ∈ wc.map Prod.fst))
    (hP : va_P g.1 vwCl w H) (hD : va_D A w) (hS : va_S A s.heap H locs) (hl : lv_has ls nL lv) (his : is.map (fun i => w[i]?) = wc.map some) (hf : w1.map Prod.fst = wc.map Prod.fst) (hw : zset w is w1 = w')
    (kk : Z (p, l, e, R, s, m, args, below, meth, c, g, A, s.heap, Q, nL) u w' (pc + 3) lv (r.toList ++ rest)) : W p l e R s m args below meth c H locs u.1 u.2 Q (F0 m pc ls st0) := by
  subst hw
  intro T hT X
  obtain ⟨v, st₀, t, T', L, h0, X', hL, e1, e2, ⟨hv, hP1, hz, hk⟩, st⟩ := hr T hT X
  cases hv
  rw [h0] at hz hk
  have hin : ∀ q, q ∈ wc.map Prod.fst → A q := by
    intro q hq
    obtain ⟨y, hy, rfl⟩ := List.mem_map.mp hq
    obtain ⟨j, hj⟩ := List.getElem?_of_mem hy
    have hj2 : (is.map (fun i => w[i]?))[j]? = some (some y) := by rw [his, List.getElem?_map, hj]; rfl
    rw [List.getElem?_map] at hj2
    cases hi : is[j]? with
    | none => rw [hi] at hj2; cases hj2
    | some i => rw [hi] at hj2; exact hD.2 i y (Option.some.inj hj2)
  obtain ⟨t2, a1, b1⟩ := kk T'.heap (locs ++ L) ls (by rw [e1]; exact zset_P hP hD his hf hP1 hk) (zset_D hD his hf)
    ⟨Nat.le_trans hS.1 (by rw [e1]; exact hz), fun q h1 h2 => by rw [e1, hk q (Nat.lt_of_lt_of_le h1 hS.1) (fun z => h2 (hin q z))]; exact hS.2.1 q h1 h2, fun q hq => by
      rcases List.mem_append.mp hq with h | h
      · exact hS.2.2 q h
      · exact hin _ (hL q h)⟩ hl T' rfl X'
  exact ⟨t2, st t2 a1, b1⟩
/-- the start of a callee's world -/
theorem z_pre {s : State} {A : Nat → Prop} {H : Heap} {locs : List Loc} {is : List Nat} {wc : va_W} {av : List Value} (hK : zK g s) (hA : ∀ q, A q → g.2.2.1 ≤ q) (hP : va_P g.1 vwCl w H) (hD : va_D A w) (hS : va_S A s.heap H locs) (hnd : va_nd is = true) (his : is.map (fun i => w[i]?) = wc.map some) : PreS s H (va_Pc av (fun U => zK g U ∧ va_P g.1 vwCl wc U.heap ∧ va_D (fun q => g.2.2.1 ≤ q) wc)) av :=
  ⟨fun _ U _ _ q => ⟨q.1, zK.blind rfl rfl q.2.1, q.2.2.1, q.2.2.2⟩, fun U hU hW => ⟨rfl, zK.warm hW (fun q h1 h2 => by rw [hU]; exact hS.2.1 q h1 (fun h => h2 (hA q h))) hK, by rw [hU]; exact zsub_P hP his, zsub_D hD hA hnd his⟩⟩
/-- what the tables say of a callee: virtual, static -/
def zVir (y : MethodName) (C : String) (bytes : ByteArray) (maxL : Nat) (ret : Option FieldType) (n : Nat) : Prop := Cond.instanceMethod y ∈ zTB ∧ Cond.selects C y y ∈ zTB ∧ Cond.initialized C ∈ zTB ∧ Cond.code y bytes maxL ret ∈ zTB ∧ y.cls = C ∧ y.cls ≠ "java/lang/invoke/MethodHandle" ∧ y.cls ≠ "java/lang/invoke/VarHandle" ∧ (parseMethodDescriptor y.desc).map (fun d => d.parameters.length) = some n
def zSta (y : MethodName) (bytes : ByteArray) (maxL : Nat) (ret : Option FieldType) (n : Nat) : Prop := Cond.static y ∈ zTB ∧ Cond.initialized y.cls ∈ zTB ∧ Cond.code y bytes maxL ret ∈ zTB ∧ y.cls ≠ "java/lang/invoke/MethodHandle" ∧ y.cls ≠ "java/lang/invoke/VarHandle" ∧ (parseMethodDescriptor y.desc).map (fun d => d.parameters.length) = some n
theorem zG {y : MethodName} {bytes : ByteArray} {maxL : Nat} {ret : Option FieldType} (h : Cond.code y bytes maxL ret ∈ zTB) : GoodIn zTB (Cond.code y bytes maxL ret :: zTB) := fun w hw => by
  rcases List.mem_cons.mp hw with rfl | hw
  · exact ⟨h, zTB_good h⟩
  · exact ⟨hw, zTB_good hw⟩
theorem z_callV (hC : zO x l g R cc nL own) {C : String} {y : MethodName} {rm : Room} {bytes : ByteArray} {maxL n index b ci q0 : Nat} {ret : Option FieldType} {q : vw_C} {fs : List Value} {As : List Value} {wc w1 w' : va_W} {r : Option Value} (hM : Ct l g y bytes maxL ret rm (.ref b :: As) wc r w1)
    (hl0 : Cond.methodLink own index y ∈ zTB) (hv : zVir y C bytes maxL ret n) (hrc : rm.cells = 0) (hrs : rm.slots = 0) (hR : rm.frames + 1 ≤ R.frames ∧ 8 + (maxL + 11) + rm.locals ≤ R.locals)
    (is : List Nat) (his : is.map (fun i => w[i]?) = wc.map some) (hnd : va_nd is = true) (hf : w1.map Prod.fst = wc.map Prod.fst) (hw : zset w is w1 = w') (hc : vwCl[ci]? = some q) (hCq : q.1 = C) (he : w[q0]? = some (b, .inr (ci, fs))) (hn : As.length = n) (hsum : (st.map fun v => v.category).sum ≤ 8) (hd : decode cc pc = .ok (.invokevirtual index, 3)) {st0 : List Value} (hst : As.reverse ++ .ref b :: st = st0) (hu : u.1 ≤ R.cells ∧ u.2 ≤ R.slots) {st1 : List Value} (hs1 : r.toList ++ st = st1)
    (kk : Z x u w' (pc + 3) lv st1) : Z x u w pc lv st0 := by
  obtain ⟨p, l', e, R', s, m, args, below, meth, c, g', A, H0, Q, nL'⟩ := x
  obtain ⟨rfl, rfl, rfl, rfl, ⟨hx, hb, hml, hown, hts⟩, hK, rfl, hA⟩ := hC
  subst hst hCq hs1
  obtain ⟨v1, v2, v3, v4, v5⟩ := hv
  have hT : GoodIn zTB (wsV own index q.1 y (Cond.code y bytes maxL ret :: zTB)) := by
    intro w hw
    rcases List.mem_append.mp hw with h | h
    · rcases List.mem_cons.mp h with rfl | h
      · exact ⟨hl0, zTB_good hl0⟩
      · rcases List.mem_cons.mp h with rfl | h
        · exact ⟨v1, zTB_good v1⟩
        · rcases List.mem_cons.mp h with rfl | h
          · exact ⟨v2, zTB_good v2⟩
          · rcases List.mem_cons.mp h with rfl | h
            · exact ⟨v3, zTB_good v3⟩
            · cases h
    · exact zG v4 w h
  exact fun H locs ls hP hD hS hl => z_back (va_runV (As := As) (rest := st) ⟨hx, hb, hml, hown, hts⟩ hM (cwV n hts hT rfl hrc hrs v5 hR) ⟨(z_pre (av := .ref b :: As) hK hA hP hD hS hnd his).1, va_recv hK.1 hP hc he, (z_pre hK hA hP hD hS hnd his).2⟩ rfl hn hl.1 rfl (lv_room hsum) hd hu) hP hD hS hl his hf hw kk
theorem z_callS (hC : zO x l g R cc nL own) {y : MethodName} {rm : Room} {bytes : ByteArray} {maxL n index : Nat} {ret : Option FieldType} {As : List Value} {wc w1 w' : va_W} {r : Option Value} (hM : Ct l g y bytes maxL ret rm As wc r w1)
    (hl0 : Cond.methodLink own index y ∈ zTB) (hv : zSta y bytes maxL ret n) (hrc : rm.cells = 0) (hrs : rm.slots = 0) (hR : rm.frames + 1 ≤ R.frames ∧ 8 + (maxL + 11) + rm.locals ≤ R.locals)
    (is : List Nat) (his : is.map (fun i => w[i]?) = wc.map some) (hnd : va_nd is = true) (hf : w1.map Prod.fst = wc.map Prod.fst) (hw : zset w is w1 = w') (hn : As.length = n) (hsum : (st.map fun v => v.category).sum ≤ 8) (hd : decode cc pc = .ok (.invokestatic index, 3)) {st0 : List Value} (hst : As.reverse ++ st = st0) (hu : u.1 ≤ R.cells ∧ u.2 ≤ R.slots) {st1 : List Value} (hs1 : r.toList ++ st = st1)
    (kk : Z x u w' (pc + 3) lv st1) : Z x u w pc lv st0 := by
  obtain ⟨p, l', e, R', s, m, args, below, meth, c, g', A, H0, Q, nL'⟩ := x
  obtain ⟨rfl, rfl, rfl, rfl, ⟨hx, hb, hml, hown, hts⟩, hK, rfl, hA⟩ := hC
  subst hst hs1
  obtain ⟨v1, v2, v3, v4⟩ := hv
  exact fun H locs ls hP hD hS hl => z_back (va_runS (As := As) (rest := st) ⟨hx, hb, hml, hown, hts⟩ hM ⟨callB_of n hts (zG v3) rfl hrc hrs (hts _ v2) (hts _ hl0) v4 hR, hts _ v1⟩ (z_pre (av := As) hK hA hP hD hS hnd his) rfl hn hl.1 rfl (lv_room hsum) hd hu) hP hD hS hl his hf hw kk
end ZR
end
section
theorem mw_0 : Cond.selects "QuerySteps$Source" ⟨"QuerySteps$Source", "spells", "(Ljava/lang/String;I)Z"⟩ ⟨"QuerySteps$Source", "spells", "(Ljava/lang/String;I)Z"⟩ ∈ zTB := zTB_of 0 (by decide +kernel) (by decide +kernel)
theorem mw_1 : Cond.selects "QuerySteps$Indexes" ⟨"QuerySteps$Indexes", "isNameOf", "(ILQuerySteps$Source;I)Z"⟩ ⟨"QuerySteps$Indexes", "isNameOf", "(ILQuerySteps$Source;I)Z"⟩ ∈ zTB := zTB_of 1 (by decide +kernel) (by decide +kernel)
theorem mw_2 : Cond.selects "QuerySteps$Indexes" ⟨"QuerySteps$Indexes", "lengthOf", "(I)I"⟩ ⟨"QuerySteps$Indexes", "lengthOf", "(I)I"⟩ ∈ zTB := zTB_of 2 (by decide +kernel) (by decide +kernel)
theorem mw_3 : Cond.selects "QuerySteps$Indexes" ⟨"QuerySteps$Indexes", "letterOf", "(II)I"⟩ ⟨"QuerySteps$Indexes", "letterOf", "(II)I"⟩ ∈ zTB := zTB_of 3 (by decide +kernel) (by decide +kernel)
theorem mw_4 : Cond.selects "QuerySteps$BetweenReader" ⟨"QuerySteps$BetweenReader", "takesTerm", "(I)Z"⟩ ⟨"QuerySteps$BetweenReader", "takesTerm", "(I)Z"⟩ ∈ zTB := zTB_of 4 (by decide +kernel) (by decide +kernel)
theorem mw_5 : Cond.selects "QuerySteps$BetweenReader" ⟨"QuerySteps$BetweenReader", "takesValues", "(I)Z"⟩ ⟨"QuerySteps$BetweenReader", "takesValues", "(I)Z"⟩ ∈ zTB := zTB_of 5 (by decide +kernel) (by decide +kernel)
theorem mw_6 : Cond.selects "QuerySteps$Tree" ⟨"QuerySteps$Tree", "put", "(IIIII)V"⟩ ⟨"QuerySteps$Tree", "put", "(IIIII)V"⟩ ∈ zTB := zTB_of 6 (by decide +kernel) (by decide +kernel)
theorem mw_7 : Cond.selects "QuerySteps$Tree" ⟨"QuerySteps$Tree", "has", "(I)Z"⟩ ⟨"QuerySteps$Tree", "has", "(I)Z"⟩ ∈ zTB := zTB_of 7 (by decide +kernel) (by decide +kernel)
theorem mw_8 : Cond.selects "QuerySteps$BetweenReader" ⟨"QuerySteps$BetweenReader", "takeJoint", "(II)I"⟩ ⟨"QuerySteps$BetweenReader", "takeJoint", "(II)I"⟩ ∈ zTB := zTB_of 8 (by decide +kernel) (by decide +kernel)
theorem mw_9 : Cond.selects "QuerySteps$Tree" ⟨"QuerySteps$Tree", "copyNode", "(ILQuerySteps$Tree;I)V"⟩ ⟨"QuerySteps$Tree", "copyNode", "(ILQuerySteps$Tree;I)V"⟩ ∈ zTB := zTB_of 9 (by decide +kernel) (by decide +kernel)
theorem mw_10 : Cond.selects "QuerySteps$FrontReader" ⟨"QuerySteps$FrontReader", "takesLeaf", "(I)Z"⟩ ⟨"QuerySteps$FrontReader", "takesLeaf", "(I)Z"⟩ ∈ zTB := zTB_of 10 (by decide +kernel) (by decide +kernel)
theorem mw_11 : Cond.selects "QuerySteps$FrontReader" ⟨"QuerySteps$FrontReader", "takesBranch", "(I)Z"⟩ ⟨"QuerySteps$FrontReader", "takesBranch", "(I)Z"⟩ ∈ zTB := zTB_of 11 (by decide +kernel) (by decide +kernel)
theorem mw_12 : Cond.selects "QuerySteps$Indexes" ⟨"QuerySteps$Indexes", "changesTo", "(ILQuerySteps$Unknown;)I"⟩ ⟨"QuerySteps$Indexes", "changesTo", "(ILQuerySteps$Unknown;)I"⟩ ∈ zTB := zTB_of 12 (by decide +kernel) (by decide +kernel)
theorem mw_13 : Cond.selects "QuerySteps$Records" ⟨"QuerySteps$Records", "has", "(I)Z"⟩ ⟨"QuerySteps$Records", "has", "(I)Z"⟩ ∈ zTB := zTB_of 13 (by decide +kernel) (by decide +kernel)
theorem mw_14 : Cond.selects "QuerySteps" ⟨"QuerySteps", "canRun", "(I)Z"⟩ ⟨"QuerySteps", "canRun", "(I)Z"⟩ ∈ zTB := zTB_of 14 (by decide +kernel) (by decide +kernel)
theorem mw_15 : Cond.selects "QuerySteps" ⟨"QuerySteps", "isSaved", "(I)Z"⟩ ⟨"QuerySteps", "isSaved", "(I)Z"⟩ ∈ zTB := zTB_of 15 (by decide +kernel) (by decide +kernel)
theorem mw_16 : Cond.selects "QuerySteps$Records" ⟨"QuerySteps$Records", "isSimpleMet", "(LQuerySteps$Tree;II)Z"⟩ ⟨"QuerySteps$Records", "isSimpleMet", "(LQuerySteps$Tree;II)Z"⟩ ∈ zTB := zTB_of 16 (by decide +kernel) (by decide +kernel)
theorem mw_17 : Cond.selects "QuerySteps$Hits" ⟨"QuerySteps$Hits", "insert", "(LQuerySteps$Records;I)V"⟩ ⟨"QuerySteps$Hits", "insert", "(LQuerySteps$Records;I)V"⟩ ∈ zTB := zTB_of 17 (by decide +kernel) (by decide +kernel)
theorem mw_18 : Cond.selects "QuerySteps$Tree" ⟨"QuerySteps$Tree", "isNodeLike", "(LQuerySteps$Tree;I)Z"⟩ ⟨"QuerySteps$Tree", "isNodeLike", "(LQuerySteps$Tree;I)Z"⟩ ∈ zTB := zTB_of 18 (by decide +kernel) (by decide +kernel)
theorem mw_19 : Cond.selects "QueryStepsModel" ⟨"QueryStepsModel", "letters", "(I)I"⟩ ⟨"QueryStepsModel", "letters", "(I)I"⟩ ∈ zTB := zTB_of 19 (by decide +kernel) (by decide +kernel)
theorem mw_20 : Cond.selects "QueryStepsModel" ⟨"QueryStepsModel", "look", "(I)I"⟩ ⟨"QueryStepsModel", "look", "(I)I"⟩ ∈ zTB := zTB_of 20 (by decide +kernel) (by decide +kernel)
theorem mw_21 : Cond.selects "QueryStepsModel" ⟨"QueryStepsModel", "word", "(II)I"⟩ ⟨"QueryStepsModel", "word", "(II)I"⟩ ∈ zTB := zTB_of 21 (by decide +kernel) (by decide +kernel)
theorem mw_22 : Cond.selects "QueryStepsModel" ⟨"QueryStepsModel", "named", "(II)I"⟩ ⟨"QueryStepsModel", "named", "(II)I"⟩ ∈ zTB := zTB_of 22 (by decide +kernel) (by decide +kernel)
theorem mw_23 : Cond.selects "QueryStepsModel" ⟨"QueryStepsModel", "first", "()Z"⟩ ⟨"QueryStepsModel", "first", "()Z"⟩ ∈ zTB := zTB_of 23 (by decide +kernel) (by decide +kernel)
theorem mw_24 : Cond.selects "QueryStepsModel" ⟨"QueryStepsModel", "depth", "()I"⟩ ⟨"QueryStepsModel", "depth", "()I"⟩ ∈ zTB := zTB_of 24 (by decide +kernel) (by decide +kernel)
theorem mw_25 : Cond.selects "QueryStepsModel" ⟨"QueryStepsModel", "bad", "(I)Z"⟩ ⟨"QueryStepsModel", "bad", "(I)Z"⟩ ∈ zTB := zTB_of 25 (by decide +kernel) (by decide +kernel)
theorem mw_26 : Cond.selects "QueryStepsModel" ⟨"QueryStepsModel", "leaf", "()Z"⟩ ⟨"QueryStepsModel", "leaf", "()Z"⟩ ∈ zTB := zTB_of 26 (by decide +kernel) (by decide +kernel)
theorem mw_27 : Cond.selects "QueryStepsModel" ⟨"QueryStepsModel", "name", "()I"⟩ ⟨"QueryStepsModel", "name", "()I"⟩ ∈ zTB := zTB_of 27 (by decide +kernel) (by decide +kernel)
theorem mw_28 : Cond.selects "QueryStepsModel" ⟨"QueryStepsModel", "count", "()I"⟩ ⟨"QueryStepsModel", "count", "()I"⟩ ∈ zTB := zTB_of 28 (by decide +kernel) (by decide +kernel)
theorem mw_29 : Cond.selects "QueryStepsModel" ⟨"QueryStepsModel", "must", "(I)Z"⟩ ⟨"QueryStepsModel", "must", "(I)Z"⟩ ∈ zTB := zTB_of 29 (by decide +kernel) (by decide +kernel)
theorem mw_30 : Cond.selects "QueryStepsModel" ⟨"QueryStepsModel", "value", "()I"⟩ ⟨"QueryStepsModel", "value", "()I"⟩ ∈ zTB := zTB_of 30 (by decide +kernel) (by decide +kernel)
theorem mw_31 : Cond.selects "QueryStepsModel" ⟨"QueryStepsModel", "range", "(II)Z"⟩ ⟨"QueryStepsModel", "range", "(II)Z"⟩ ∈ zTB := zTB_of 31 (by decide +kernel) (by decide +kernel)
theorem mw_32 : Cond.selects "QueryStepsModel" ⟨"QueryStepsModel", "add", "(IIII)V"⟩ ⟨"QueryStepsModel", "add", "(IIII)V"⟩ ∈ zTB := zTB_of 32 (by decide +kernel) (by decide +kernel)
theorem mw_33 : Cond.selects "QueryStepsModel" ⟨"QueryStepsModel", "settle", "(I)V"⟩ ⟨"QueryStepsModel", "settle", "(I)V"⟩ ∈ zTB := zTB_of 33 (by decide +kernel) (by decide +kernel)
theorem mw_34 : Cond.selects "QueryStepsModel" ⟨"QueryStepsModel", "join", "(I)V"⟩ ⟨"QueryStepsModel", "join", "(I)V"⟩ ∈ zTB := zTB_of 34 (by decide +kernel) (by decide +kernel)
theorem mw_35 : Cond.selects "QueryStepsModel" ⟨"QueryStepsModel", "second", "()Z"⟩ ⟨"QueryStepsModel", "second", "()Z"⟩ ∈ zTB := zTB_of 35 (by decide +kernel) (by decide +kernel)
theorem mw_36 : Cond.selects "QueryStepsModel" ⟨"QueryStepsModel", "count2", "()I"⟩ ⟨"QueryStepsModel", "count2", "()I"⟩ ∈ zTB := zTB_of 36 (by decide +kernel) (by decide +kernel)
theorem mw_37 : Cond.selects "QueryStepsModel" ⟨"QueryStepsModel", "must2", "(II)Z"⟩ ⟨"QueryStepsModel", "must2", "(II)Z"⟩ ∈ zTB := zTB_of 37 (by decide +kernel) (by decide +kernel)
theorem mw_38 : Cond.selects "QueryStepsModel" ⟨"QueryStepsModel", "named2", "()Z"⟩ ⟨"QueryStepsModel", "named2", "()Z"⟩ ∈ zTB := zTB_of 38 (by decide +kernel) (by decide +kernel)
theorem mw_39 : Cond.selects "QueryStepsModel" ⟨"QueryStepsModel", "lay", "()V"⟩ ⟨"QueryStepsModel", "lay", "()V"⟩ ∈ zTB := zTB_of 39 (by decide +kernel) (by decide +kernel)
theorem mw_40 : Cond.selects "QueryStepsModel" ⟨"QueryStepsModel", "distance", "(I)I"⟩ ⟨"QueryStepsModel", "distance", "(I)I"⟩ ∈ zTB := zTB_of 40 (by decide +kernel) (by decide +kernel)
theorem mw_41 : Cond.selects "QueryStepsModel" ⟨"QueryStepsModel", "isSaved", "(I)Z"⟩ ⟨"QueryStepsModel", "isSaved", "(I)Z"⟩ ∈ zTB := zTB_of 41 (by decide +kernel) (by decide +kernel)
theorem mw_42 : Cond.selects "QueryStepsModel" ⟨"QueryStepsModel", "isBroken", "(I)Z"⟩ ⟨"QueryStepsModel", "isBroken", "(I)Z"⟩ ∈ zTB := zTB_of 42 (by decide +kernel) (by decide +kernel)
theorem mw_43 : Cond.selects "QueryStepsModel" ⟨"QueryStepsModel", "finds", "(IZ)I"⟩ ⟨"QueryStepsModel", "finds", "(IZ)I"⟩ ∈ zTB := zTB_of 43 (by decide +kernel) (by decide +kernel)
theorem mw_44 : Cond.selects "QueryStepsModel" ⟨"QueryStepsModel", "meetsAll", "(II)Z"⟩ ⟨"QueryStepsModel", "meetsAll", "(II)Z"⟩ ∈ zTB := zTB_of 44 (by decide +kernel) (by decide +kernel)
theorem mw_45 : Cond.selects "QueryStepsModel" ⟨"QueryStepsModel", "has", "(II)Z"⟩ ⟨"QueryStepsModel", "has", "(II)Z"⟩ ∈ zTB := zTB_of 45 (by decide +kernel) (by decide +kernel)
theorem mw_46 : (Jvm.Cond.initialized "QueryStepsLaw") ∈ zTB := zTB_of 46 (by decide +kernel) (by decide +kernel)
theorem mw_47 : (Jvm.Cond.initialized "QuerySteps") ∈ zTB := zTB_of 47 (by decide +kernel) (by decide +kernel)
theorem mw_48 : (Jvm.Cond.initialized "QuerySteps$Source") ∈ zTB := zTB_of 48 (by decide +kernel) (by decide +kernel)
theorem mw_49 : (Jvm.Cond.initialized "QuerySteps$Indexes") ∈ zTB := zTB_of 49 (by decide +kernel) (by decide +kernel)
theorem mw_50 : (Jvm.Cond.initialized "QuerySteps$Unknown") ∈ zTB := zTB_of 50 (by decide +kernel) (by decide +kernel)
theorem mw_51 : (Jvm.Cond.initialized "QuerySteps$Tree") ∈ zTB := zTB_of 51 (by decide +kernel) (by decide +kernel)
theorem mw_52 : (Jvm.Cond.initialized "QuerySteps$Reader") ∈ zTB := zTB_of 52 (by decide +kernel) (by decide +kernel)
theorem mw_53 : (Jvm.Cond.initialized "QuerySteps$BetweenReader") ∈ zTB := zTB_of 53 (by decide +kernel) (by decide +kernel)
theorem mw_54 : (Jvm.Cond.initialized "QuerySteps$FrontReader") ∈ zTB := zTB_of 54 (by decide +kernel) (by decide +kernel)
theorem mw_55 : (Jvm.Cond.initialized "QuerySteps$Records") ∈ zTB := zTB_of 55 (by decide +kernel) (by decide +kernel)
theorem mw_56 : (Jvm.Cond.initialized "QuerySteps$Question") ∈ zTB := zTB_of 56 (by decide +kernel) (by decide +kernel)
theorem mw_57 : (Jvm.Cond.initialized "QuerySteps$Hits") ∈ zTB := zTB_of 57 (by decide +kernel) (by decide +kernel)
theorem mw_58 : (Jvm.Cond.initialized "QueryStepsModel") ∈ zTB := zTB_of 58 (by decide +kernel) (by decide +kernel)
theorem mw_59 : (Jvm.Cond.initialized "java/lang/String") ∈ zTB := zTB_of 59 (by decide +kernel) (by decide +kernel)
theorem mw_60 : (Jvm.Cond.initialized "java/lang/StringLatin1") ∈ zTB := zTB_of 60 (by decide +kernel) (by decide +kernel)
theorem mw_61 : (Jvm.Cond.initialized "jdk/internal/util/Preconditions") ∈ zTB := zTB_of 61 (by decide +kernel) (by decide +kernel)
theorem mw_62 : (Jvm.Cond.initialized "java/lang/StringUTF16") ∈ zTB := zTB_of 62 (by decide +kernel) (by decide +kernel)
theorem mw_63 : (Jvm.Cond.initialized "java/lang/Math") ∈ zTB := zTB_of 63 (by decide +kernel) (by decide +kernel)
theorem mw_64 : (Jvm.Cond.classLink "QueryStepsLaw" (7 : Nat) "QuerySteps") ∈ zTB := zTB_of 64 (by decide +kernel) (by decide +kernel)
theorem mw_65 : (Jvm.Cond.instantiable "QuerySteps" (10 : Nat)) ∈ zTB := zTB_of 65 (by decide +kernel) (by decide +kernel)
theorem mw_66 : (Jvm.Cond.methodLink "QueryStepsLaw" (9 : Nat) ({ cls := "QuerySteps", name := "<init>", desc := "()V" } : Jvm.MethodName)) ∈ zTB := zTB_of 66 (by decide +kernel) (by decide +kernel)
theorem mw_67 : (Jvm.Cond.instanceMethod ({ cls := "QuerySteps", name := "<init>", desc := "()V" } : Jvm.MethodName)) ∈ zTB := zTB_of 67 (by decide +kernel) (by decide +kernel)
theorem mw_68 : (Jvm.Cond.code ({ cls := "QuerySteps", name := "<init>", desc := "()V" } : Jvm.MethodName) prog_1_method_1_code (2 : Nat) (Option.none : Option Jvm.ClassFile.FieldType)) ∈ zTB := zTB_of 68 (by decide +kernel) (by decide +kernel)
theorem mw_69 : (Jvm.Cond.methodLink "QuerySteps" (1 : Nat) ({ cls := "java/lang/Object", name := "<init>", desc := "()V" } : Jvm.MethodName)) ∈ zTB := zTB_of 69 (by decide +kernel) (by decide +kernel)
theorem mw_70 : (Jvm.Cond.instanceMethod ({ cls := "java/lang/Object", name := "<init>", desc := "()V" } : Jvm.MethodName)) ∈ zTB := zTB_of 70 (by decide +kernel) (by decide +kernel)
theorem mw_71 : (Jvm.Cond.code ({ cls := "java/lang/Object", name := "<init>", desc := "()V" } : Jvm.MethodName) object_method_1_code (1 : Nat) (Option.none : Option Jvm.ClassFile.FieldType)) ∈ zTB := zTB_of 71 (by decide +kernel) (by decide +kernel)
theorem mw_72 : (Jvm.Cond.classLink "QuerySteps" (7 : Nat) "QuerySteps$Source") ∈ zTB := zTB_of 72 (by decide +kernel) (by decide +kernel)
theorem mw_73 : (Jvm.Cond.instantiable "QuerySteps$Source" (3 : Nat)) ∈ zTB := zTB_of 73 (by decide +kernel) (by decide +kernel)
theorem mw_75 : (Jvm.Cond.instanceMethod ({ cls := "QuerySteps$Source", name := "<init>", desc := "()V" } : Jvm.MethodName)) ∈ zTB := zTB_of 75 (by decide +kernel) (by decide +kernel)
theorem mw_76 : (Jvm.Cond.code ({ cls := "QuerySteps$Source", name := "<init>", desc := "()V" } : Jvm.MethodName) prog_9_method_1_code (1 : Nat) (Option.none : Option Jvm.ClassFile.FieldType)) ∈ zTB := zTB_of 76 (by decide +kernel) (by decide +kernel)
theorem mw_77 : (Jvm.Cond.methodLink "QuerySteps$Source" (3 : Nat) ({ cls := "java/lang/Object", name := "<init>", desc := "()V" } : Jvm.MethodName)) ∈ zTB := zTB_of 77 (by decide +kernel) (by decide +kernel)
theorem mw_78 : (Jvm.Cond.fieldLink "QuerySteps$Source" (9 : Nat) "QuerySteps$Source" "signs" "[I") ∈ zTB := zTB_of 78 (by decide +kernel) (by decide +kernel)
theorem mw_79 : (Jvm.Cond.fieldLink "QuerySteps$Source" (15 : Nat) "QuerySteps$Source" "length" "I") ∈ zTB := zTB_of 79 (by decide +kernel) (by decide +kernel)
theorem mw_80 : (Jvm.Cond.fieldLink "QuerySteps$Source" (19 : Nat) "QuerySteps$Source" "place" "I") ∈ zTB := zTB_of 80 (by decide +kernel) (by decide +kernel)
theorem mw_88 : (Jvm.Cond.arrayClass Jvm.ClassFile.FieldType.int) ∈ zTB := zTB_of 88 (by decide +kernel) (by decide +kernel)
theorem mw_89 : (Jvm.Cond.classLink "QuerySteps" (16 : Nat) "QuerySteps$Indexes") ∈ zTB := zTB_of 89 (by decide +kernel) (by decide +kernel)
theorem mw_90 : (Jvm.Cond.instantiable "QuerySteps$Indexes" (5 : Nat)) ∈ zTB := zTB_of 90 (by decide +kernel) (by decide +kernel)
theorem mw_92 : (Jvm.Cond.instanceMethod ({ cls := "QuerySteps$Indexes", name := "<init>", desc := "()V" } : Jvm.MethodName)) ∈ zTB := zTB_of 92 (by decide +kernel) (by decide +kernel)
theorem mw_93 : (Jvm.Cond.code ({ cls := "QuerySteps$Indexes", name := "<init>", desc := "()V" } : Jvm.MethodName) prog_5_method_1_code (1 : Nat) (Option.none : Option Jvm.ClassFile.FieldType)) ∈ zTB := zTB_of 93 (by decide +kernel) (by decide +kernel)
theorem mw_94 : (Jvm.Cond.methodLink "QuerySteps$Indexes" (3 : Nat) ({ cls := "java/lang/Object", name := "<init>", desc := "()V" } : Jvm.MethodName)) ∈ zTB := zTB_of 94 (by decide +kernel) (by decide +kernel)
theorem mw_95 : (Jvm.Cond.fieldLink "QuerySteps$Indexes" (9 : Nat) "QuerySteps$Indexes" "letters" "[I") ∈ zTB := zTB_of 95 (by decide +kernel) (by decide +kernel)
theorem mw_96 : (Jvm.Cond.fieldLink "QuerySteps$Indexes" (15 : Nat) "QuerySteps$Indexes" "lengths" "[I") ∈ zTB := zTB_of 96 (by decide +kernel) (by decide +kernel)
theorem mw_97 : (Jvm.Cond.fieldLink "QuerySteps$Indexes" (18 : Nat) "QuerySteps$Indexes" "isOn" "[Z") ∈ zTB := zTB_of 97 (by decide +kernel) (by decide +kernel)
theorem mw_98 : (Jvm.Cond.fieldLink "QuerySteps$Indexes" (22 : Nat) "QuerySteps$Indexes" "changes" "[I") ∈ zTB := zTB_of 98 (by decide +kernel) (by decide +kernel)
theorem mw_99 : (Jvm.Cond.fieldLink "QuerySteps$Indexes" (25 : Nat) "QuerySteps$Indexes" "count" "I") ∈ zTB := zTB_of 99 (by decide +kernel) (by decide +kernel)
theorem mw_111 : (Jvm.Cond.arrayClass Jvm.ClassFile.FieldType.boolean) ∈ zTB := zTB_of 111 (by decide +kernel) (by decide +kernel)
theorem mw_112 : (Jvm.Cond.classLink "QuerySteps" (23 : Nat) "QuerySteps$Unknown") ∈ zTB := zTB_of 112 (by decide +kernel) (by decide +kernel)
theorem mw_113 : (Jvm.Cond.instantiable "QuerySteps$Unknown" (2 : Nat)) ∈ zTB := zTB_of 113 (by decide +kernel) (by decide +kernel)
theorem mw_115 : (Jvm.Cond.instanceMethod ({ cls := "QuerySteps$Unknown", name := "<init>", desc := "()V" } : Jvm.MethodName)) ∈ zTB := zTB_of 115 (by decide +kernel) (by decide +kernel)
theorem mw_116 : (Jvm.Cond.code ({ cls := "QuerySteps$Unknown", name := "<init>", desc := "()V" } : Jvm.MethodName) prog_11_method_1_code (1 : Nat) (Option.none : Option Jvm.ClassFile.FieldType)) ∈ zTB := zTB_of 116 (by decide +kernel) (by decide +kernel)
theorem mw_117 : (Jvm.Cond.methodLink "QuerySteps$Unknown" (3 : Nat) ({ cls := "java/lang/Object", name := "<init>", desc := "()V" } : Jvm.MethodName)) ∈ zTB := zTB_of 117 (by decide +kernel) (by decide +kernel)
theorem mw_118 : (Jvm.Cond.fieldLink "QuerySteps$Unknown" (9 : Nat) "QuerySteps$Unknown" "letters" "[I") ∈ zTB := zTB_of 118 (by decide +kernel) (by decide +kernel)
theorem mw_119 : (Jvm.Cond.fieldLink "QuerySteps$Unknown" (15 : Nat) "QuerySteps$Unknown" "length" "I") ∈ zTB := zTB_of 119 (by decide +kernel) (by decide +kernel)
theorem mw_125 : (Jvm.Cond.classLink "QuerySteps" (30 : Nat) "QuerySteps$Tree") ∈ zTB := zTB_of 125 (by decide +kernel) (by decide +kernel)
theorem mw_126 : (Jvm.Cond.instantiable "QuerySteps$Tree" (5 : Nat)) ∈ zTB := zTB_of 126 (by decide +kernel) (by decide +kernel)
theorem mw_128 : (Jvm.Cond.instanceMethod ({ cls := "QuerySteps$Tree", name := "<init>", desc := "()V" } : Jvm.MethodName)) ∈ zTB := zTB_of 128 (by decide +kernel) (by decide +kernel)
theorem mw_129 : (Jvm.Cond.code ({ cls := "QuerySteps$Tree", name := "<init>", desc := "()V" } : Jvm.MethodName) prog_10_method_1_code (1 : Nat) (Option.none : Option Jvm.ClassFile.FieldType)) ∈ zTB := zTB_of 129 (by decide +kernel) (by decide +kernel)
theorem mw_130 : (Jvm.Cond.methodLink "QuerySteps$Tree" (3 : Nat) ({ cls := "java/lang/Object", name := "<init>", desc := "()V" } : Jvm.MethodName)) ∈ zTB := zTB_of 130 (by decide +kernel) (by decide +kernel)
theorem mw_131 : (Jvm.Cond.fieldLink "QuerySteps$Tree" (9 : Nat) "QuerySteps$Tree" "sorts" "[I") ∈ zTB := zTB_of 131 (by decide +kernel) (by decide +kernel)
theorem mw_132 : (Jvm.Cond.fieldLink "QuerySteps$Tree" (15 : Nat) "QuerySteps$Tree" "indexNumbers" "[I") ∈ zTB := zTB_of 132 (by decide +kernel) (by decide +kernel)
theorem mw_133 : (Jvm.Cond.fieldLink "QuerySteps$Tree" (18 : Nat) "QuerySteps$Tree" "leasts" "[I") ∈ zTB := zTB_of 133 (by decide +kernel) (by decide +kernel)
theorem mw_134 : (Jvm.Cond.fieldLink "QuerySteps$Tree" (21 : Nat) "QuerySteps$Tree" "greatests" "[I") ∈ zTB := zTB_of 134 (by decide +kernel) (by decide +kernel)
theorem mw_135 : (Jvm.Cond.fieldLink "QuerySteps$Tree" (24 : Nat) "QuerySteps$Tree" "size" "I") ∈ zTB := zTB_of 135 (by decide +kernel) (by decide +kernel)
theorem mw_147 : (Jvm.Cond.classLink "QuerySteps" (40 : Nat) "QuerySteps$BetweenReader") ∈ zTB := zTB_of 147 (by decide +kernel) (by decide +kernel)
theorem mw_148 : (Jvm.Cond.instantiable "QuerySteps$BetweenReader" (4 : Nat)) ∈ zTB := zTB_of 148 (by decide +kernel) (by decide +kernel)
theorem mw_149 : (Jvm.Cond.methodLink "QuerySteps" (42 : Nat) ({ cls := "QuerySteps$BetweenReader", name := "<init>", desc := "(LQuerySteps$Source;LQuerySteps$Indexes;LQuerySteps$Unknown;LQuerySteps$Tree;)V" } : Jvm.MethodName)) ∈ zTB := zTB_of 149 (by decide +kernel) (by decide +kernel)
theorem mw_150 : (Jvm.Cond.instanceMethod ({ cls := "QuerySteps$BetweenReader", name := "<init>", desc := "(LQuerySteps$Source;LQuerySteps$Indexes;LQuerySteps$Unknown;LQuerySteps$Tree;)V" } : Jvm.MethodName)) ∈ zTB := zTB_of 150 (by decide +kernel) (by decide +kernel)
theorem mw_151 : (Jvm.Cond.code ({ cls := "QuerySteps$BetweenReader", name := "<init>", desc := "(LQuerySteps$Source;LQuerySteps$Indexes;LQuerySteps$Unknown;LQuerySteps$Tree;)V" } : Jvm.MethodName) prog_2_method_1_code (5 : Nat) (Option.none : Option Jvm.ClassFile.FieldType)) ∈ zTB := zTB_of 151 (by decide +kernel) (by decide +kernel)
theorem mw_152 : (Jvm.Cond.methodLink "QuerySteps$BetweenReader" (3 : Nat) ({ cls := "QuerySteps$Reader", name := "<init>", desc := "(LQuerySteps$Source;LQuerySteps$Indexes;LQuerySteps$Unknown;LQuerySteps$Tree;)V" } : Jvm.MethodName)) ∈ zTB := zTB_of 152 (by decide +kernel) (by decide +kernel)
theorem mw_153 : (Jvm.Cond.instanceMethod ({ cls := "QuerySteps$Reader", name := "<init>", desc := "(LQuerySteps$Source;LQuerySteps$Indexes;LQuerySteps$Unknown;LQuerySteps$Tree;)V" } : Jvm.MethodName)) ∈ zTB := zTB_of 153 (by decide +kernel) (by decide +kernel)
theorem mw_154 : (Jvm.Cond.code ({ cls := "QuerySteps$Reader", name := "<init>", desc := "(LQuerySteps$Source;LQuerySteps$Indexes;LQuerySteps$Unknown;LQuerySteps$Tree;)V" } : Jvm.MethodName) prog_7_method_1_code (5 : Nat) (Option.none : Option Jvm.ClassFile.FieldType)) ∈ zTB := zTB_of 154 (by decide +kernel) (by decide +kernel)
theorem mw_155 : (Jvm.Cond.methodLink "QuerySteps$Reader" (3 : Nat) ({ cls := "java/lang/Object", name := "<init>", desc := "()V" } : Jvm.MethodName)) ∈ zTB := zTB_of 155 (by decide +kernel) (by decide +kernel)
theorem mw_156 : (Jvm.Cond.fieldLink "QuerySteps$Reader" (9 : Nat) "QuerySteps$Reader" "source" "LQuerySteps$Source;") ∈ zTB := zTB_of 156 (by decide +kernel) (by decide +kernel)
theorem mw_157 : (Jvm.Cond.fieldLink "QuerySteps$FrontReader" (9 : Nat) "QuerySteps$FrontReader" "source" "LQuerySteps$Source;") ∈ zTB := zTB_of 157 (by decide +kernel) (by decide +kernel)
theorem mw_158 : (Jvm.Cond.sameField "QuerySteps$FrontReader" "QuerySteps$Reader" "source" "LQuerySteps$Source;") ∈ zTB := zTB_of 158 (by decide +kernel) (by decide +kernel)
theorem mw_159 : (Jvm.Cond.fieldLink "QuerySteps$BetweenReader" (25 : Nat) "QuerySteps$BetweenReader" "source" "LQuerySteps$Source;") ∈ zTB := zTB_of 159 (by decide +kernel) (by decide +kernel)
theorem mw_160 : (Jvm.Cond.sameField "QuerySteps$BetweenReader" "QuerySteps$Reader" "source" "LQuerySteps$Source;") ∈ zTB := zTB_of 160 (by decide +kernel) (by decide +kernel)
theorem mw_161 : (Jvm.Cond.fieldLink "QuerySteps$Reader" (23 : Nat) "QuerySteps$Reader" "draft" "LQuerySteps$Tree;") ∈ zTB := zTB_of 161 (by decide +kernel) (by decide +kernel)
theorem mw_162 : (Jvm.Cond.fieldLink "QuerySteps$BetweenReader" (9 : Nat) "QuerySteps$BetweenReader" "draft" "LQuerySteps$Tree;") ∈ zTB := zTB_of 162 (by decide +kernel) (by decide +kernel)
theorem mw_163 : (Jvm.Cond.sameField "QuerySteps$BetweenReader" "QuerySteps$Reader" "draft" "LQuerySteps$Tree;") ∈ zTB := zTB_of 163 (by decide +kernel) (by decide +kernel)
theorem mw_164 : (Jvm.Cond.fieldLink "QuerySteps$FrontReader" (29 : Nat) "QuerySteps$FrontReader" "draft" "LQuerySteps$Tree;") ∈ zTB := zTB_of 164 (by decide +kernel) (by decide +kernel)
theorem mw_165 : (Jvm.Cond.sameField "QuerySteps$FrontReader" "QuerySteps$Reader" "draft" "LQuerySteps$Tree;") ∈ zTB := zTB_of 165 (by decide +kernel) (by decide +kernel)
theorem mw_166 : (Jvm.Cond.fieldLink "QuerySteps$Reader" (15 : Nat) "QuerySteps$Reader" "indexes" "LQuerySteps$Indexes;") ∈ zTB := zTB_of 166 (by decide +kernel) (by decide +kernel)
theorem mw_167 : (Jvm.Cond.fieldLink "QuerySteps$Reader" (19 : Nat) "QuerySteps$Reader" "unknown" "LQuerySteps$Unknown;") ∈ zTB := zTB_of 167 (by decide +kernel) (by decide +kernel)
theorem mw_177 : (Jvm.Cond.classLink "QuerySteps" (49 : Nat) "QuerySteps$FrontReader") ∈ zTB := zTB_of 177 (by decide +kernel) (by decide +kernel)
theorem mw_178 : (Jvm.Cond.instantiable "QuerySteps$FrontReader" (4 : Nat)) ∈ zTB := zTB_of 178 (by decide +kernel) (by decide +kernel)
theorem mw_179 : (Jvm.Cond.methodLink "QuerySteps" (51 : Nat) ({ cls := "QuerySteps$FrontReader", name := "<init>", desc := "(LQuerySteps$Source;LQuerySteps$Indexes;LQuerySteps$Unknown;LQuerySteps$Tree;)V" } : Jvm.MethodName)) ∈ zTB := zTB_of 179 (by decide +kernel) (by decide +kernel)
theorem mw_180 : (Jvm.Cond.instanceMethod ({ cls := "QuerySteps$FrontReader", name := "<init>", desc := "(LQuerySteps$Source;LQuerySteps$Indexes;LQuerySteps$Unknown;LQuerySteps$Tree;)V" } : Jvm.MethodName)) ∈ zTB := zTB_of 180 (by decide +kernel) (by decide +kernel)
theorem mw_181 : (Jvm.Cond.code ({ cls := "QuerySteps$FrontReader", name := "<init>", desc := "(LQuerySteps$Source;LQuerySteps$Indexes;LQuerySteps$Unknown;LQuerySteps$Tree;)V" } : Jvm.MethodName) prog_3_method_1_code (5 : Nat) (Option.none : Option Jvm.ClassFile.FieldType)) ∈ zTB := zTB_of 181 (by decide +kernel) (by decide +kernel)
theorem mw_182 : (Jvm.Cond.methodLink "QuerySteps$FrontReader" (3 : Nat) ({ cls := "QuerySteps$Reader", name := "<init>", desc := "(LQuerySteps$Source;LQuerySteps$Indexes;LQuerySteps$Unknown;LQuerySteps$Tree;)V" } : Jvm.MethodName)) ∈ zTB := zTB_of 182 (by decide +kernel) (by decide +kernel)
theorem mw_188 : (Jvm.Cond.classLink "QuerySteps" (55 : Nat) "QuerySteps$Records") ∈ zTB := zTB_of 188 (by decide +kernel) (by decide +kernel)
theorem mw_189 : (Jvm.Cond.instantiable "QuerySteps$Records" (6 : Nat)) ∈ zTB := zTB_of 189 (by decide +kernel) (by decide +kernel)
theorem mw_191 : (Jvm.Cond.instanceMethod ({ cls := "QuerySteps$Records", name := "<init>", desc := "()V" } : Jvm.MethodName)) ∈ zTB := zTB_of 191 (by decide +kernel) (by decide +kernel)
theorem mw_192 : (Jvm.Cond.code ({ cls := "QuerySteps$Records", name := "<init>", desc := "()V" } : Jvm.MethodName) prog_8_method_1_code (1 : Nat) (Option.none : Option Jvm.ClassFile.FieldType)) ∈ zTB := zTB_of 192 (by decide +kernel) (by decide +kernel)
theorem mw_193 : (Jvm.Cond.methodLink "QuerySteps$Records" (3 : Nat) ({ cls := "java/lang/Object", name := "<init>", desc := "()V" } : Jvm.MethodName)) ∈ zTB := zTB_of 193 (by decide +kernel) (by decide +kernel)
theorem mw_194 : (Jvm.Cond.fieldLink "QuerySteps$Records" (9 : Nat) "QuerySteps$Records" "moments" "[J") ∈ zTB := zTB_of 194 (by decide +kernel) (by decide +kernel)
theorem mw_195 : (Jvm.Cond.fieldLink "QuerySteps$Records" (15 : Nat) "QuerySteps$Records" "entryCounts" "[I") ∈ zTB := zTB_of 195 (by decide +kernel) (by decide +kernel)
theorem mw_196 : (Jvm.Cond.fieldLink "QuerySteps$Records" (19 : Nat) "QuerySteps$Records" "entryIndexes" "[I") ∈ zTB := zTB_of 196 (by decide +kernel) (by decide +kernel)
theorem mw_197 : (Jvm.Cond.fieldLink "QuerySteps$Records" (22 : Nat) "QuerySteps$Records" "entryValues" "[I") ∈ zTB := zTB_of 197 (by decide +kernel) (by decide +kernel)
theorem mw_198 : (Jvm.Cond.fieldLink "QuerySteps$Records" (25 : Nat) "QuerySteps$Records" "met" "[Z") ∈ zTB := zTB_of 198 (by decide +kernel) (by decide +kernel)
theorem mw_199 : (Jvm.Cond.fieldLink "QuerySteps$Records" (29 : Nat) "QuerySteps$Records" "count" "I") ∈ zTB := zTB_of 199 (by decide +kernel) (by decide +kernel)
theorem mw_213 : (Jvm.Cond.arrayClass Jvm.ClassFile.FieldType.long) ∈ zTB := zTB_of 213 (by decide +kernel) (by decide +kernel)
theorem mw_214 : (Jvm.Cond.classLink "QuerySteps" (62 : Nat) "QuerySteps$Question") ∈ zTB := zTB_of 214 (by decide +kernel) (by decide +kernel)
theorem mw_216 : (Jvm.Cond.instantiable "QuerySteps$Question" (4 : Nat)) ∈ zTB := zTB_of 216 (by decide +kernel) (by decide +kernel)
theorem mw_218 : (Jvm.Cond.instanceMethod ({ cls := "QuerySteps$Question", name := "<init>", desc := "()V" } : Jvm.MethodName)) ∈ zTB := zTB_of 218 (by decide +kernel) (by decide +kernel)
theorem mw_219 : (Jvm.Cond.code ({ cls := "QuerySteps$Question", name := "<init>", desc := "()V" } : Jvm.MethodName) prog_6_method_1_code (1 : Nat) (Option.none : Option Jvm.ClassFile.FieldType)) ∈ zTB := zTB_of 219 (by decide +kernel) (by decide +kernel)
theorem mw_220 : (Jvm.Cond.methodLink "QuerySteps$Question" (1 : Nat) ({ cls := "java/lang/Object", name := "<init>", desc := "()V" } : Jvm.MethodName)) ∈ zTB := zTB_of 220 (by decide +kernel) (by decide +kernel)
theorem mw_221 : (Jvm.Cond.classLink "QuerySteps$Question" (7 : Nat) "QuerySteps$Tree") ∈ zTB := zTB_of 221 (by decide +kernel) (by decide +kernel)
theorem mw_223 : (Jvm.Cond.fieldLink "QuerySteps$Question" (10 : Nat) "QuerySteps$Question" "tree" "LQuerySteps$Tree;") ∈ zTB := zTB_of 223 (by decide +kernel) (by decide +kernel)
theorem mw_226 : (Jvm.Cond.fieldLink "QuerySteps$Question" (16 : Nat) "QuerySteps$Question" "isKept" "Z") ∈ zTB := zTB_of 226 (by decide +kernel) (by decide +kernel)
theorem mw_228 : (Jvm.Cond.fieldLink "QuerySteps$Question" (20 : Nat) "QuerySteps$Question" "isLookedAt" "Z") ∈ zTB := zTB_of 228 (by decide +kernel) (by decide +kernel)
theorem mw_229 : (Jvm.Cond.fieldLink "QuerySteps$Question" (23 : Nat) "QuerySteps$Question" "latestMoment" "J") ∈ zTB := zTB_of 229 (by decide +kernel) (by decide +kernel)
theorem mw_239 : (Jvm.Cond.classLink "QuerySteps" (69 : Nat) "QuerySteps$Hits") ∈ zTB := zTB_of 239 (by decide +kernel) (by decide +kernel)
theorem mw_240 : (Jvm.Cond.instantiable "QuerySteps$Hits" (2 : Nat)) ∈ zTB := zTB_of 240 (by decide +kernel) (by decide +kernel)
theorem mw_242 : (Jvm.Cond.instanceMethod ({ cls := "QuerySteps$Hits", name := "<init>", desc := "()V" } : Jvm.MethodName)) ∈ zTB := zTB_of 242 (by decide +kernel) (by decide +kernel)
theorem mw_243 : (Jvm.Cond.code ({ cls := "QuerySteps$Hits", name := "<init>", desc := "()V" } : Jvm.MethodName) prog_4_method_1_code (1 : Nat) (Option.none : Option Jvm.ClassFile.FieldType)) ∈ zTB := zTB_of 243 (by decide +kernel) (by decide +kernel)
theorem mw_244 : (Jvm.Cond.methodLink "QuerySteps$Hits" (3 : Nat) ({ cls := "java/lang/Object", name := "<init>", desc := "()V" } : Jvm.MethodName)) ∈ zTB := zTB_of 244 (by decide +kernel) (by decide +kernel)
theorem mw_245 : (Jvm.Cond.fieldLink "QuerySteps$Hits" (9 : Nat) "QuerySteps$Hits" "numbers" "[I") ∈ zTB := zTB_of 245 (by decide +kernel) (by decide +kernel)
theorem mw_246 : (Jvm.Cond.fieldLink "QuerySteps$Hits" (15 : Nat) "QuerySteps$Hits" "count" "I") ∈ zTB := zTB_of 246 (by decide +kernel) (by decide +kernel)
theorem mw_252 : (Jvm.Cond.fieldLink "QuerySteps" (10 : Nat) "QuerySteps" "source" "LQuerySteps$Source;") ∈ zTB := zTB_of 252 (by decide +kernel) (by decide +kernel)
theorem mw_253 : (Jvm.Cond.fieldLink "QuerySteps" (19 : Nat) "QuerySteps" "indexes" "LQuerySteps$Indexes;") ∈ zTB := zTB_of 253 (by decide +kernel) (by decide +kernel)
theorem mw_254 : (Jvm.Cond.fieldLink "QuerySteps" (26 : Nat) "QuerySteps" "unknown" "LQuerySteps$Unknown;") ∈ zTB := zTB_of 254 (by decide +kernel) (by decide +kernel)
theorem mw_255 : (Jvm.Cond.fieldLink "QuerySteps" (33 : Nat) "QuerySteps" "draft" "LQuerySteps$Tree;") ∈ zTB := zTB_of 255 (by decide +kernel) (by decide +kernel)
theorem mw_256 : (Jvm.Cond.fieldLink "QuerySteps" (37 : Nat) "QuerySteps" "tree" "LQuerySteps$Tree;") ∈ zTB := zTB_of 256 (by decide +kernel) (by decide +kernel)
theorem mw_257 : (Jvm.Cond.fieldLink "QuerySteps" (45 : Nat) "QuerySteps" "between" "LQuerySteps$Reader;") ∈ zTB := zTB_of 257 (by decide +kernel) (by decide +kernel)
theorem mw_258 : (Jvm.Cond.fieldLink "QuerySteps" (52 : Nat) "QuerySteps" "front" "LQuerySteps$Reader;") ∈ zTB := zTB_of 258 (by decide +kernel) (by decide +kernel)
theorem mw_259 : (Jvm.Cond.fieldLink "QuerySteps" (58 : Nat) "QuerySteps" "records" "LQuerySteps$Records;") ∈ zTB := zTB_of 259 (by decide +kernel) (by decide +kernel)
theorem mw_260 : (Jvm.Cond.fieldLink "QuerySteps" (64 : Nat) "QuerySteps" "questions" "[LQuerySteps$Question;") ∈ zTB := zTB_of 260 (by decide +kernel) (by decide +kernel)
theorem mw_261 : (Jvm.Cond.fieldLink "QuerySteps" (72 : Nat) "QuerySteps" "hits" "LQuerySteps$Hits;") ∈ zTB := zTB_of 261 (by decide +kernel) (by decide +kernel)
theorem mw_283 : (Jvm.Cond.methodLink "QueryStepsLaw" (13 : Nat) ({ cls := "QuerySteps", name := "sign", desc := "(I)V" } : Jvm.MethodName)) ∈ zTB := zTB_of 283 (by decide +kernel) (by decide +kernel)
theorem mw_284 : (Jvm.Cond.instanceMethod ({ cls := "QuerySteps", name := "sign", desc := "(I)V" } : Jvm.MethodName)) ∈ zTB := zTB_of 284 (by decide +kernel) (by decide +kernel)
theorem mw_285 : (Jvm.Cond.selects "QuerySteps" ({ cls := "QuerySteps", name := "sign", desc := "(I)V" } : Jvm.MethodName) ({ cls := "QuerySteps", name := "sign", desc := "(I)V" } : Jvm.MethodName)) ∈ zTB := zTB_of 285 (by decide +kernel) (by decide +kernel)
theorem mw_286 : (Jvm.Cond.code ({ cls := "QuerySteps", name := "sign", desc := "(I)V" } : Jvm.MethodName) prog_1_method_2_code (2 : Nat) (Option.none : Option Jvm.ClassFile.FieldType)) ∈ zTB := zTB_of 286 (by decide +kernel) (by decide +kernel)
theorem mw_287 : (Jvm.Cond.methodLink "QuerySteps" (76 : Nat) ({ cls := "QuerySteps$Source", name := "collect", desc := "(I)V" } : Jvm.MethodName)) ∈ zTB := zTB_of 287 (by decide +kernel) (by decide +kernel)
theorem mw_288 : (Jvm.Cond.instanceMethod ({ cls := "QuerySteps$Source", name := "collect", desc := "(I)V" } : Jvm.MethodName)) ∈ zTB := zTB_of 288 (by decide +kernel) (by decide +kernel)
theorem mw_289 : (Jvm.Cond.selects "QuerySteps$Source" ({ cls := "QuerySteps$Source", name := "collect", desc := "(I)V" } : Jvm.MethodName) ({ cls := "QuerySteps$Source", name := "collect", desc := "(I)V" } : Jvm.MethodName)) ∈ zTB := zTB_of 289 (by decide +kernel) (by decide +kernel)
theorem mw_290 : (Jvm.Cond.code ({ cls := "QuerySteps$Source", name := "collect", desc := "(I)V" } : Jvm.MethodName) prog_9_method_2_code (2 : Nat) (Option.none : Option Jvm.ClassFile.FieldType)) ∈ zTB := zTB_of 290 (by decide +kernel) (by decide +kernel)
theorem mw_291 : (Jvm.Cond.methodLink "QueryStepsLaw" (18 : Nat) ({ cls := "QuerySteps", name := "index", desc := "()I" } : Jvm.MethodName)) ∈ zTB := zTB_of 291 (by decide +kernel) (by decide +kernel)
theorem mw_292 : (Jvm.Cond.instanceMethod ({ cls := "QuerySteps", name := "index", desc := "()I" } : Jvm.MethodName)) ∈ zTB := zTB_of 292 (by decide +kernel) (by decide +kernel)
theorem mw_293 : (Jvm.Cond.selects "QuerySteps" ({ cls := "QuerySteps", name := "index", desc := "()I" } : Jvm.MethodName) ({ cls := "QuerySteps", name := "index", desc := "()I" } : Jvm.MethodName)) ∈ zTB := zTB_of 293 (by decide +kernel) (by decide +kernel)
theorem mw_294 : (Jvm.Cond.code ({ cls := "QuerySteps", name := "index", desc := "()I" } : Jvm.MethodName) prog_1_method_3_code (2 : Nat) (Option.some Jvm.ClassFile.FieldType.int)) ∈ zTB := zTB_of 294 (by decide +kernel) (by decide +kernel)
theorem mw_295 : (Jvm.Cond.methodLink "QuerySteps" (80 : Nat) ({ cls := "QuerySteps$Indexes", name := "register", desc := "(LQuerySteps$Source;)I" } : Jvm.MethodName)) ∈ zTB := zTB_of 295 (by decide +kernel) (by decide +kernel)
theorem mw_296 : (Jvm.Cond.instanceMethod ({ cls := "QuerySteps$Indexes", name := "register", desc := "(LQuerySteps$Source;)I" } : Jvm.MethodName)) ∈ zTB := zTB_of 296 (by decide +kernel) (by decide +kernel)
theorem mw_297 : (Jvm.Cond.selects "QuerySteps$Indexes" ({ cls := "QuerySteps$Indexes", name := "register", desc := "(LQuerySteps$Source;)I" } : Jvm.MethodName) ({ cls := "QuerySteps$Indexes", name := "register", desc := "(LQuerySteps$Source;)I" } : Jvm.MethodName)) ∈ zTB := zTB_of 297 (by decide +kernel) (by decide +kernel)
theorem mw_298 : (Jvm.Cond.code ({ cls := "QuerySteps$Indexes", name := "register", desc := "(LQuerySteps$Source;)I" } : Jvm.MethodName) prog_5_method_5_code (5 : Nat) (Option.some Jvm.ClassFile.FieldType.int)) ∈ zTB := zTB_of 298 (by decide +kernel) (by decide +kernel)
theorem mw_299 : (Jvm.Cond.methodLink "QuerySteps$Indexes" (43 : Nat) ({ cls := "QuerySteps$Source", name := "moveTo", desc := "(I)V" } : Jvm.MethodName)) ∈ zTB := zTB_of 299 (by decide +kernel) (by decide +kernel)
theorem mw_300 : (Jvm.Cond.instanceMethod ({ cls := "QuerySteps$Source", name := "moveTo", desc := "(I)V" } : Jvm.MethodName)) ∈ zTB := zTB_of 300 (by decide +kernel) (by decide +kernel)
theorem mw_301 : (Jvm.Cond.selects "QuerySteps$Source" ({ cls := "QuerySteps$Source", name := "moveTo", desc := "(I)V" } : Jvm.MethodName) ({ cls := "QuerySteps$Source", name := "moveTo", desc := "(I)V" } : Jvm.MethodName)) ∈ zTB := zTB_of 301 (by decide +kernel) (by decide +kernel)
theorem mw_302 : (Jvm.Cond.code ({ cls := "QuerySteps$Source", name := "moveTo", desc := "(I)V" } : Jvm.MethodName) prog_9_method_6_code (2 : Nat) (Option.none : Option Jvm.ClassFile.FieldType)) ∈ zTB := zTB_of 302 (by decide +kernel) (by decide +kernel)
theorem mw_303 : (Jvm.Cond.methodLink "QuerySteps$Indexes" (49 : Nat) ({ cls := "QuerySteps$Source", name := "length", desc := "()I" } : Jvm.MethodName)) ∈ zTB := zTB_of 303 (by decide +kernel) (by decide +kernel)
theorem mw_304 : (Jvm.Cond.instanceMethod ({ cls := "QuerySteps$Source", name := "length", desc := "()I" } : Jvm.MethodName)) ∈ zTB := zTB_of 304 (by decide +kernel) (by decide +kernel)
theorem mw_305 : (Jvm.Cond.selects "QuerySteps$Source" ({ cls := "QuerySteps$Source", name := "length", desc := "()I" } : Jvm.MethodName) ({ cls := "QuerySteps$Source", name := "length", desc := "()I" } : Jvm.MethodName)) ∈ zTB := zTB_of 305 (by decide +kernel) (by decide +kernel)
theorem mw_306 : (Jvm.Cond.code ({ cls := "QuerySteps$Source", name := "length", desc := "()I" } : Jvm.MethodName) prog_9_method_4_code (1 : Nat) (Option.some Jvm.ClassFile.FieldType.int)) ∈ zTB := zTB_of 306 (by decide +kernel) (by decide +kernel)
theorem mw_307 : (Jvm.Cond.methodLink "QuerySteps$Indexes" (52 : Nat) ({ cls := "QuerySteps$Source", name := "rowEnd", desc := "()I" } : Jvm.MethodName)) ∈ zTB := zTB_of 307 (by decide +kernel) (by decide +kernel)
theorem mw_308 : (Jvm.Cond.instanceMethod ({ cls := "QuerySteps$Source", name := "rowEnd", desc := "()I" } : Jvm.MethodName)) ∈ zTB := zTB_of 308 (by decide +kernel) (by decide +kernel)
theorem mw_309 : (Jvm.Cond.selects "QuerySteps$Source" ({ cls := "QuerySteps$Source", name := "rowEnd", desc := "()I" } : Jvm.MethodName) ({ cls := "QuerySteps$Source", name := "rowEnd", desc := "()I" } : Jvm.MethodName)) ∈ zTB := zTB_of 309 (by decide +kernel) (by decide +kernel)
theorem mw_310 : (Jvm.Cond.code ({ cls := "QuerySteps$Source", name := "rowEnd", desc := "()I" } : Jvm.MethodName) prog_9_method_10_code (2 : Nat) (Option.some Jvm.ClassFile.FieldType.int)) ∈ zTB := zTB_of 310 (by decide +kernel) (by decide +kernel)
theorem mw_311 : (Jvm.Cond.methodLink "QuerySteps$Source" (22 : Nat) ({ cls := "QuerySteps$Source", name := "signAt", desc := "(I)I" } : Jvm.MethodName)) ∈ zTB := zTB_of 311 (by decide +kernel) (by decide +kernel)
theorem mw_312 : (Jvm.Cond.instanceMethod ({ cls := "QuerySteps$Source", name := "signAt", desc := "(I)I" } : Jvm.MethodName)) ∈ zTB := zTB_of 312 (by decide +kernel) (by decide +kernel)
theorem mw_313 : (Jvm.Cond.selects "QuerySteps$Source" ({ cls := "QuerySteps$Source", name := "signAt", desc := "(I)I" } : Jvm.MethodName) ({ cls := "QuerySteps$Source", name := "signAt", desc := "(I)I" } : Jvm.MethodName)) ∈ zTB := zTB_of 313 (by decide +kernel) (by decide +kernel)
theorem mw_314 : (Jvm.Cond.code ({ cls := "QuerySteps$Source", name := "signAt", desc := "(I)I" } : Jvm.MethodName) prog_9_method_8_code (2 : Nat) (Option.some Jvm.ClassFile.FieldType.int)) ∈ zTB := zTB_of 314 (by decide +kernel) (by decide +kernel)
theorem mw_315 : (Jvm.Cond.methodLink "QuerySteps$Source" (26 : Nat) ({ cls := "QuerySteps$Source", name := "isSmallLetter", desc := "(I)Z" } : Jvm.MethodName)) ∈ zTB := zTB_of 315 (by decide +kernel) (by decide +kernel)
theorem mw_316 : (Jvm.Cond.static ({ cls := "QuerySteps$Source", name := "isSmallLetter", desc := "(I)Z" } : Jvm.MethodName)) ∈ zTB := zTB_of 316 (by decide +kernel) (by decide +kernel)
theorem mw_317 : (Jvm.Cond.code ({ cls := "QuerySteps$Source", name := "isSmallLetter", desc := "(I)Z" } : Jvm.MethodName) prog_9_method_14_code (1 : Nat) (Option.some Jvm.ClassFile.FieldType.boolean)) ∈ zTB := zTB_of 317 (by decide +kernel) (by decide +kernel)
theorem mw_318 : (Jvm.Cond.methodLink "QuerySteps$Indexes" (55 : Nat) ({ cls := "QuerySteps$Source", name := "joiningSort", desc := "(I)I" } : Jvm.MethodName)) ∈ zTB := zTB_of 318 (by decide +kernel) (by decide +kernel)
theorem mw_319 : (Jvm.Cond.instanceMethod ({ cls := "QuerySteps$Source", name := "joiningSort", desc := "(I)I" } : Jvm.MethodName)) ∈ zTB := zTB_of 319 (by decide +kernel) (by decide +kernel)
theorem mw_320 : (Jvm.Cond.selects "QuerySteps$Source" ({ cls := "QuerySteps$Source", name := "joiningSort", desc := "(I)I" } : Jvm.MethodName) ({ cls := "QuerySteps$Source", name := "joiningSort", desc := "(I)I" } : Jvm.MethodName)) ∈ zTB := zTB_of 320 (by decide +kernel) (by decide +kernel)
theorem mw_321 : (Jvm.Cond.code ({ cls := "QuerySteps$Source", name := "joiningSort", desc := "(I)I" } : Jvm.MethodName) prog_9_method_12_code (2 : Nat) (Option.some Jvm.ClassFile.FieldType.int)) ∈ zTB := zTB_of 321 (by decide +kernel) (by decide +kernel)
theorem mw_323 : (Jvm.Cond.methodLink "QuerySteps$Source" (35 : Nat) ({ cls := "QuerySteps$Source", name := "spells", desc := "(Ljava/lang/String;I)Z" } : Jvm.MethodName)) ∈ zTB := zTB_of 323 (by decide +kernel) (by decide +kernel)
theorem mw_325 : (Jvm.Cond.instanceMethod ({ cls := "QuerySteps$Source", name := "spells", desc := "(Ljava/lang/String;I)Z" } : Jvm.MethodName)) ∈ zTB := zTB_of 325 (by decide +kernel) (by decide +kernel)
theorem mw_326 : (Jvm.Cond.code ({ cls := "QuerySteps$Source", name := "spells", desc := "(Ljava/lang/String;I)Z" } : Jvm.MethodName) prog_9_method_13_code (4 : Nat) (Option.some Jvm.ClassFile.FieldType.boolean)) ∈ zTB := zTB_of 326 (by decide +kernel) (by decide +kernel)
theorem mw_327 : (Jvm.Cond.methodLink "QuerySteps$Source" (43 : Nat) ({ cls := "java/lang/String", name := "length", desc := "()I" } : Jvm.MethodName)) ∈ zTB := zTB_of 327 (by decide +kernel) (by decide +kernel)
theorem mw_328 : (Jvm.Cond.instanceMethod ({ cls := "java/lang/String", name := "length", desc := "()I" } : Jvm.MethodName)) ∈ zTB := zTB_of 328 (by decide +kernel) (by decide +kernel)
theorem mw_329 : (Jvm.Cond.selects "java/lang/String" ({ cls := "java/lang/String", name := "length", desc := "()I" } : Jvm.MethodName) ({ cls := "java/lang/String", name := "length", desc := "()I" } : Jvm.MethodName)) ∈ zTB := zTB_of 329 (by decide +kernel) (by decide +kernel)
theorem mw_330 : (Jvm.Cond.code ({ cls := "java/lang/String", name := "length", desc := "()I" } : Jvm.MethodName) prog_15_method_54_code (1 : Nat) (Option.some Jvm.ClassFile.FieldType.int)) ∈ zTB := zTB_of 330 (by decide +kernel) (by decide +kernel)
theorem mw_331 : (Jvm.Cond.methodLink "java/lang/String" (335 : Nat) ({ cls := "java/lang/String", name := "coder", desc := "()B" } : Jvm.MethodName)) ∈ zTB := zTB_of 331 (by decide +kernel) (by decide +kernel)
theorem mw_332 : (Jvm.Cond.instanceMethod ({ cls := "java/lang/String", name := "coder", desc := "()B" } : Jvm.MethodName)) ∈ zTB := zTB_of 332 (by decide +kernel) (by decide +kernel)
theorem mw_333 : (Jvm.Cond.selects "java/lang/String" ({ cls := "java/lang/String", name := "coder", desc := "()B" } : Jvm.MethodName) ({ cls := "java/lang/String", name := "coder", desc := "()B" } : Jvm.MethodName)) ∈ zTB := zTB_of 333 (by decide +kernel) (by decide +kernel)
theorem mw_334 : (Jvm.Cond.code ({ cls := "java/lang/String", name := "coder", desc := "()B" } : Jvm.MethodName) prog_15_method_152_code (1 : Nat) (Option.some Jvm.ClassFile.FieldType.byte)) ∈ zTB := zTB_of 334 (by decide +kernel) (by decide +kernel)
theorem mw_335 : (Jvm.Cond.fieldLink "java/lang/String" (38 : Nat) "java/lang/String" "COMPACT_STRINGS" "Z") ∈ zTB := zTB_of 335 (by decide +kernel) (by decide +kernel)
theorem mw_337 : (Jvm.Cond.methodLink "QuerySteps$Source" (48 : Nat) ({ cls := "java/lang/String", name := "charAt", desc := "(I)C" } : Jvm.MethodName)) ∈ zTB := zTB_of 337 (by decide +kernel) (by decide +kernel)
theorem mw_338 : (Jvm.Cond.instanceMethod ({ cls := "java/lang/String", name := "charAt", desc := "(I)C" } : Jvm.MethodName)) ∈ zTB := zTB_of 338 (by decide +kernel) (by decide +kernel)
theorem mw_339 : (Jvm.Cond.selects "java/lang/String" ({ cls := "java/lang/String", name := "charAt", desc := "(I)C" } : Jvm.MethodName) ({ cls := "java/lang/String", name := "charAt", desc := "(I)C" } : Jvm.MethodName)) ∈ zTB := zTB_of 339 (by decide +kernel) (by decide +kernel)
theorem mw_340 : (Jvm.Cond.code ({ cls := "java/lang/String", name := "charAt", desc := "(I)C" } : Jvm.MethodName) prog_15_method_56_code (2 : Nat) (Option.some Jvm.ClassFile.FieldType.char)) ∈ zTB := zTB_of 340 (by decide +kernel) (by decide +kernel)
theorem mw_341 : (Jvm.Cond.methodLink "java/lang/String" (492 : Nat) ({ cls := "java/lang/String", name := "isLatin1", desc := "()Z" } : Jvm.MethodName)) ∈ zTB := zTB_of 341 (by decide +kernel) (by decide +kernel)
theorem mw_342 : (Jvm.Cond.instanceMethod ({ cls := "java/lang/String", name := "isLatin1", desc := "()Z" } : Jvm.MethodName)) ∈ zTB := zTB_of 342 (by decide +kernel) (by decide +kernel)
theorem mw_343 : (Jvm.Cond.selects "java/lang/String" ({ cls := "java/lang/String", name := "isLatin1", desc := "()Z" } : Jvm.MethodName) ({ cls := "java/lang/String", name := "isLatin1", desc := "()Z" } : Jvm.MethodName)) ∈ zTB := zTB_of 343 (by decide +kernel) (by decide +kernel)
theorem mw_344 : (Jvm.Cond.code ({ cls := "java/lang/String", name := "isLatin1", desc := "()Z" } : Jvm.MethodName) prog_15_method_154_code (1 : Nat) (Option.some Jvm.ClassFile.FieldType.boolean)) ∈ zTB := zTB_of 344 (by decide +kernel) (by decide +kernel)
theorem mw_345 : (Jvm.Cond.methodLink "java/lang/String" (495 : Nat) ({ cls := "java/lang/StringLatin1", name := "charAt", desc := "([BI)C" } : Jvm.MethodName)) ∈ zTB := zTB_of 345 (by decide +kernel) (by decide +kernel)
theorem mw_346 : (Jvm.Cond.static ({ cls := "java/lang/StringLatin1", name := "charAt", desc := "([BI)C" } : Jvm.MethodName)) ∈ zTB := zTB_of 346 (by decide +kernel) (by decide +kernel)
theorem mw_347 : (Jvm.Cond.code ({ cls := "java/lang/StringLatin1", name := "charAt", desc := "([BI)C" } : Jvm.MethodName) prog_16_method_2_code (2 : Nat) (Option.some Jvm.ClassFile.FieldType.char)) ∈ zTB := zTB_of 347 (by decide +kernel) (by decide +kernel)
theorem mw_348 : (Jvm.Cond.methodLink "java/lang/StringLatin1" (9 : Nat) ({ cls := "java/lang/String", name := "checkIndex", desc := "(II)V" } : Jvm.MethodName)) ∈ zTB := zTB_of 348 (by decide +kernel) (by decide +kernel)
theorem mw_349 : (Jvm.Cond.static ({ cls := "java/lang/String", name := "checkIndex", desc := "(II)V" } : Jvm.MethodName)) ∈ zTB := zTB_of 349 (by decide +kernel) (by decide +kernel)
theorem mw_350 : (Jvm.Cond.code ({ cls := "java/lang/String", name := "checkIndex", desc := "(II)V" } : Jvm.MethodName) prog_15_method_155_code (2 : Nat) (Option.none : Option Jvm.ClassFile.FieldType)) ∈ zTB := zTB_of 350 (by decide +kernel) (by decide +kernel)
theorem mw_351 : (Jvm.Cond.fieldLink "java/lang/String" (1053 : Nat) "jdk/internal/util/Preconditions" "SIOOBE_FORMATTER" "Ljava/util/function/BiFunction;") ∈ zTB := zTB_of 351 (by decide +kernel) (by decide +kernel)
theorem mw_353 : (Jvm.Cond.methodLink "java/lang/String" (1059 : Nat) ({ cls := "jdk/internal/util/Preconditions", name := "checkIndex", desc := "(IILjava/util/function/BiFunction;)I" } : Jvm.MethodName)) ∈ zTB := zTB_of 353 (by decide +kernel) (by decide +kernel)
theorem mw_354 : (Jvm.Cond.static ({ cls := "jdk/internal/util/Preconditions", name := "checkIndex", desc := "(IILjava/util/function/BiFunction;)I" } : Jvm.MethodName)) ∈ zTB := zTB_of 354 (by decide +kernel) (by decide +kernel)
theorem mw_355 : (Jvm.Cond.code ({ cls := "jdk/internal/util/Preconditions", name := "checkIndex", desc := "(IILjava/util/function/BiFunction;)I" } : Jvm.MethodName) prog_18_method_11_code (3 : Nat) (Option.some Jvm.ClassFile.FieldType.int)) ∈ zTB := zTB_of 355 (by decide +kernel) (by decide +kernel)
theorem mw_356 : (Jvm.Cond.methodLink "java/lang/String" (498 : Nat) ({ cls := "java/lang/StringUTF16", name := "charAt", desc := "([BI)C" } : Jvm.MethodName)) ∈ zTB := zTB_of 356 (by decide +kernel) (by decide +kernel)
theorem mw_357 : (Jvm.Cond.static ({ cls := "java/lang/StringUTF16", name := "charAt", desc := "([BI)C" } : Jvm.MethodName)) ∈ zTB := zTB_of 357 (by decide +kernel) (by decide +kernel)
theorem mw_358 : (Jvm.Cond.code ({ cls := "java/lang/StringUTF16", name := "charAt", desc := "([BI)C" } : Jvm.MethodName) prog_17_method_83_code (2 : Nat) (Option.some Jvm.ClassFile.FieldType.char)) ∈ zTB := zTB_of 358 (by decide +kernel) (by decide +kernel)
theorem mw_359 : (Jvm.Cond.methodLink "java/lang/StringUTF16" (67 : Nat) ({ cls := "java/lang/StringUTF16", name := "checkIndex", desc := "(I[B)V" } : Jvm.MethodName)) ∈ zTB := zTB_of 359 (by decide +kernel) (by decide +kernel)
theorem mw_360 : (Jvm.Cond.static ({ cls := "java/lang/StringUTF16", name := "checkIndex", desc := "(I[B)V" } : Jvm.MethodName)) ∈ zTB := zTB_of 360 (by decide +kernel) (by decide +kernel)
theorem mw_361 : (Jvm.Cond.code ({ cls := "java/lang/StringUTF16", name := "checkIndex", desc := "(I[B)V" } : Jvm.MethodName) prog_17_method_91_code (2 : Nat) (Option.none : Option Jvm.ClassFile.FieldType)) ∈ zTB := zTB_of 361 (by decide +kernel) (by decide +kernel)
theorem mw_362 : (Jvm.Cond.methodLink "java/lang/StringUTF16" (48 : Nat) ({ cls := "java/lang/StringUTF16", name := "length", desc := "([B)I" } : Jvm.MethodName)) ∈ zTB := zTB_of 362 (by decide +kernel) (by decide +kernel)
theorem mw_363 : (Jvm.Cond.static ({ cls := "java/lang/StringUTF16", name := "length", desc := "([B)I" } : Jvm.MethodName)) ∈ zTB := zTB_of 363 (by decide +kernel) (by decide +kernel)
theorem mw_364 : (Jvm.Cond.code ({ cls := "java/lang/StringUTF16", name := "length", desc := "([B)I" } : Jvm.MethodName) prog_17_method_6_code (1 : Nat) (Option.some Jvm.ClassFile.FieldType.int)) ∈ zTB := zTB_of 364 (by decide +kernel) (by decide +kernel)
theorem mw_365 : (Jvm.Cond.methodLink "java/lang/StringUTF16" (414 : Nat) ({ cls := "java/lang/String", name := "checkIndex", desc := "(II)V" } : Jvm.MethodName)) ∈ zTB := zTB_of 365 (by decide +kernel) (by decide +kernel)
theorem mw_366 : (Jvm.Cond.methodLink "java/lang/StringUTF16" (71 : Nat) ({ cls := "java/lang/StringUTF16", name := "getChar", desc := "([BI)C" } : Jvm.MethodName)) ∈ zTB := zTB_of 366 (by decide +kernel) (by decide +kernel)
theorem mw_367 : (Jvm.Cond.static ({ cls := "java/lang/StringUTF16", name := "getChar", desc := "([BI)C" } : Jvm.MethodName)) ∈ zTB := zTB_of 367 (by decide +kernel) (by decide +kernel)
theorem mw_368 : (Jvm.Cond.code ({ cls := "java/lang/StringUTF16", name := "getChar", desc := "([BI)C" } : Jvm.MethodName) prog_17_method_5_code (2 : Nat) (Option.some Jvm.ClassFile.FieldType.char)) ∈ zTB := zTB_of 368 (by decide +kernel) (by decide +kernel)
theorem mw_369 : (Jvm.Cond.fieldLink "java/lang/StringUTF16" (44 : Nat) "java/lang/StringUTF16" "$assertionsDisabled" "Z") ∈ zTB := zTB_of 369 (by decide +kernel) (by decide +kernel)
theorem mw_371 : (Jvm.Cond.fieldLink "java/lang/StringUTF16" (59 : Nat) "java/lang/StringUTF16" "HI_BYTE_SHIFT" "I") ∈ zTB := zTB_of 371 (by decide +kernel) (by decide +kernel)
theorem mw_373 : (Jvm.Cond.fieldLink "java/lang/StringUTF16" (63 : Nat) "java/lang/StringUTF16" "LO_BYTE_SHIFT" "I") ∈ zTB := zTB_of 373 (by decide +kernel) (by decide +kernel)
theorem mw_377 : (Jvm.Cond.methodLink "QuerySteps$Indexes" (58 : Nat) ({ cls := "QuerySteps$Indexes", name := "find", desc := "(LQuerySteps$Source;I)I" } : Jvm.MethodName)) ∈ zTB := zTB_of 377 (by decide +kernel) (by decide +kernel)
theorem mw_378 : (Jvm.Cond.instanceMethod ({ cls := "QuerySteps$Indexes", name := "find", desc := "(LQuerySteps$Source;I)I" } : Jvm.MethodName)) ∈ zTB := zTB_of 378 (by decide +kernel) (by decide +kernel)
theorem mw_379 : (Jvm.Cond.selects "QuerySteps$Indexes" ({ cls := "QuerySteps$Indexes", name := "find", desc := "(LQuerySteps$Source;I)I" } : Jvm.MethodName) ({ cls := "QuerySteps$Indexes", name := "find", desc := "(LQuerySteps$Source;I)I" } : Jvm.MethodName)) ∈ zTB := zTB_of 379 (by decide +kernel) (by decide +kernel)
theorem mw_380 : (Jvm.Cond.code ({ cls := "QuerySteps$Indexes", name := "find", desc := "(LQuerySteps$Source;I)I" } : Jvm.MethodName) prog_5_method_6_code (4 : Nat) (Option.some Jvm.ClassFile.FieldType.int)) ∈ zTB := zTB_of 380 (by decide +kernel) (by decide +kernel)
theorem mw_381 : (Jvm.Cond.methodLink "QuerySteps$Indexes" (65 : Nat) ({ cls := "QuerySteps$Indexes", name := "isNameOf", desc := "(ILQuerySteps$Source;I)Z" } : Jvm.MethodName)) ∈ zTB := zTB_of 381 (by decide +kernel) (by decide +kernel)
theorem mw_383 : (Jvm.Cond.instanceMethod ({ cls := "QuerySteps$Indexes", name := "isNameOf", desc := "(ILQuerySteps$Source;I)Z" } : Jvm.MethodName)) ∈ zTB := zTB_of 383 (by decide +kernel) (by decide +kernel)
theorem mw_384 : (Jvm.Cond.code ({ cls := "QuerySteps$Indexes", name := "isNameOf", desc := "(ILQuerySteps$Source;I)Z" } : Jvm.MethodName) prog_5_method_7_code (6 : Nat) (Option.some Jvm.ClassFile.FieldType.boolean)) ∈ zTB := zTB_of 384 (by decide +kernel) (by decide +kernel)
theorem mw_385 : (Jvm.Cond.methodLink "QuerySteps$Indexes" (69 : Nat) ({ cls := "QuerySteps$Source", name := "place", desc := "()I" } : Jvm.MethodName)) ∈ zTB := zTB_of 385 (by decide +kernel) (by decide +kernel)
theorem mw_386 : (Jvm.Cond.instanceMethod ({ cls := "QuerySteps$Source", name := "place", desc := "()I" } : Jvm.MethodName)) ∈ zTB := zTB_of 386 (by decide +kernel) (by decide +kernel)
theorem mw_387 : (Jvm.Cond.selects "QuerySteps$Source" ({ cls := "QuerySteps$Source", name := "place", desc := "()I" } : Jvm.MethodName) ({ cls := "QuerySteps$Source", name := "place", desc := "()I" } : Jvm.MethodName)) ∈ zTB := zTB_of 387 (by decide +kernel) (by decide +kernel)
theorem mw_388 : (Jvm.Cond.code ({ cls := "QuerySteps$Source", name := "place", desc := "()I" } : Jvm.MethodName) prog_9_method_5_code (1 : Nat) (Option.some Jvm.ClassFile.FieldType.int)) ∈ zTB := zTB_of 388 (by decide +kernel) (by decide +kernel)
theorem mw_389 : (Jvm.Cond.methodLink "QuerySteps$Indexes" (72 : Nat) ({ cls := "QuerySteps$Indexes", name := "lengthOf", desc := "(I)I" } : Jvm.MethodName)) ∈ zTB := zTB_of 389 (by decide +kernel) (by decide +kernel)
theorem mw_391 : (Jvm.Cond.instanceMethod ({ cls := "QuerySteps$Indexes", name := "lengthOf", desc := "(I)I" } : Jvm.MethodName)) ∈ zTB := zTB_of 391 (by decide +kernel) (by decide +kernel)
theorem mw_392 : (Jvm.Cond.code ({ cls := "QuerySteps$Indexes", name := "lengthOf", desc := "(I)I" } : Jvm.MethodName) prog_5_method_8_code (2 : Nat) (Option.some Jvm.ClassFile.FieldType.int)) ∈ zTB := zTB_of 392 (by decide +kernel) (by decide +kernel)
theorem mw_393 : (Jvm.Cond.methodLink "QuerySteps$Indexes" (29 : Nat) ({ cls := "QuerySteps$Indexes", name := "has", desc := "(I)Z" } : Jvm.MethodName)) ∈ zTB := zTB_of 393 (by decide +kernel) (by decide +kernel)
theorem mw_394 : (Jvm.Cond.instanceMethod ({ cls := "QuerySteps$Indexes", name := "has", desc := "(I)Z" } : Jvm.MethodName)) ∈ zTB := zTB_of 394 (by decide +kernel) (by decide +kernel)
theorem mw_395 : (Jvm.Cond.selects "QuerySteps$Indexes" ({ cls := "QuerySteps$Indexes", name := "has", desc := "(I)Z" } : Jvm.MethodName) ({ cls := "QuerySteps$Indexes", name := "has", desc := "(I)Z" } : Jvm.MethodName)) ∈ zTB := zTB_of 395 (by decide +kernel) (by decide +kernel)
theorem mw_396 : (Jvm.Cond.code ({ cls := "QuerySteps$Indexes", name := "has", desc := "(I)Z" } : Jvm.MethodName) prog_5_method_2_code (2 : Nat) (Option.some Jvm.ClassFile.FieldType.boolean)) ∈ zTB := zTB_of 396 (by decide +kernel) (by decide +kernel)
theorem mw_397 : (Jvm.Cond.methodLink "QuerySteps$Indexes" (75 : Nat) ({ cls := "QuerySteps$Indexes", name := "letterOf", desc := "(II)I" } : Jvm.MethodName)) ∈ zTB := zTB_of 397 (by decide +kernel) (by decide +kernel)
theorem mw_399 : (Jvm.Cond.instanceMethod ({ cls := "QuerySteps$Indexes", name := "letterOf", desc := "(II)I" } : Jvm.MethodName)) ∈ zTB := zTB_of 399 (by decide +kernel) (by decide +kernel)
theorem mw_400 : (Jvm.Cond.code ({ cls := "QuerySteps$Indexes", name := "letterOf", desc := "(II)I" } : Jvm.MethodName) prog_5_method_9_code (3 : Nat) (Option.some Jvm.ClassFile.FieldType.int)) ∈ zTB := zTB_of 400 (by decide +kernel) (by decide +kernel)
theorem mw_401 : (Jvm.Cond.methodLink "QuerySteps$Indexes" (62 : Nat) ({ cls := "QuerySteps$Source", name := "signAt", desc := "(I)I" } : Jvm.MethodName)) ∈ zTB := zTB_of 401 (by decide +kernel) (by decide +kernel)
theorem mw_402 : (Jvm.Cond.methodLink "QuerySteps" (84 : Nat) ({ cls := "QuerySteps$Source", name := "clear", desc := "()V" } : Jvm.MethodName)) ∈ zTB := zTB_of 402 (by decide +kernel) (by decide +kernel)
theorem mw_403 : (Jvm.Cond.instanceMethod ({ cls := "QuerySteps$Source", name := "clear", desc := "()V" } : Jvm.MethodName)) ∈ zTB := zTB_of 403 (by decide +kernel) (by decide +kernel)
theorem mw_404 : (Jvm.Cond.selects "QuerySteps$Source" ({ cls := "QuerySteps$Source", name := "clear", desc := "()V" } : Jvm.MethodName) ({ cls := "QuerySteps$Source", name := "clear", desc := "()V" } : Jvm.MethodName)) ∈ zTB := zTB_of 404 (by decide +kernel) (by decide +kernel)
theorem mw_405 : (Jvm.Cond.code ({ cls := "QuerySteps$Source", name := "clear", desc := "()V" } : Jvm.MethodName) prog_9_method_3_code (1 : Nat) (Option.none : Option Jvm.ClassFile.FieldType)) ∈ zTB := zTB_of 405 (by decide +kernel) (by decide +kernel)
theorem mw_406 : (Jvm.Cond.arrayClass Jvm.ClassFile.FieldType.byte) ∈ zTB := zTB_of 406 (by decide +kernel) (by decide +kernel)
theorem mw_407 : (Jvm.Cond.methodLink "QueryStepsLaw" (23 : Nat) ({ cls := "QuerySteps", name := "on", desc := "(IZ)Z" } : Jvm.MethodName)) ∈ zTB := zTB_of 407 (by decide +kernel) (by decide +kernel)
theorem mw_408 : (Jvm.Cond.instanceMethod ({ cls := "QuerySteps", name := "on", desc := "(IZ)Z" } : Jvm.MethodName)) ∈ zTB := zTB_of 408 (by decide +kernel) (by decide +kernel)
theorem mw_409 : (Jvm.Cond.selects "QuerySteps" ({ cls := "QuerySteps", name := "on", desc := "(IZ)Z" } : Jvm.MethodName) ({ cls := "QuerySteps", name := "on", desc := "(IZ)Z" } : Jvm.MethodName)) ∈ zTB := zTB_of 409 (by decide +kernel) (by decide +kernel)
theorem mw_410 : (Jvm.Cond.code ({ cls := "QuerySteps", name := "on", desc := "(IZ)Z" } : Jvm.MethodName) prog_1_method_4_code (3 : Nat) (Option.some Jvm.ClassFile.FieldType.boolean)) ∈ zTB := zTB_of 410 (by decide +kernel) (by decide +kernel)
theorem mw_411 : (Jvm.Cond.methodLink "QuerySteps" (87 : Nat) ({ cls := "QuerySteps$Indexes", name := "turn", desc := "(IZ)Z" } : Jvm.MethodName)) ∈ zTB := zTB_of 411 (by decide +kernel) (by decide +kernel)
theorem mw_412 : (Jvm.Cond.instanceMethod ({ cls := "QuerySteps$Indexes", name := "turn", desc := "(IZ)Z" } : Jvm.MethodName)) ∈ zTB := zTB_of 412 (by decide +kernel) (by decide +kernel)
theorem mw_413 : (Jvm.Cond.selects "QuerySteps$Indexes" ({ cls := "QuerySteps$Indexes", name := "turn", desc := "(IZ)Z" } : Jvm.MethodName) ({ cls := "QuerySteps$Indexes", name := "turn", desc := "(IZ)Z" } : Jvm.MethodName)) ∈ zTB := zTB_of 413 (by decide +kernel) (by decide +kernel)
theorem mw_414 : (Jvm.Cond.code ({ cls := "QuerySteps$Indexes", name := "turn", desc := "(IZ)Z" } : Jvm.MethodName) prog_5_method_3_code (4 : Nat) (Option.some Jvm.ClassFile.FieldType.boolean)) ∈ zTB := zTB_of 414 (by decide +kernel) (by decide +kernel)
theorem mw_415 : (Jvm.Cond.methodLink "QueryStepsLaw" (28 : Nat) ({ cls := "QuerySteps", name := "read", desc := "(I)I" } : Jvm.MethodName)) ∈ zTB := zTB_of 415 (by decide +kernel) (by decide +kernel)
theorem mw_416 : (Jvm.Cond.instanceMethod ({ cls := "QuerySteps", name := "read", desc := "(I)I" } : Jvm.MethodName)) ∈ zTB := zTB_of 416 (by decide +kernel) (by decide +kernel)
theorem mw_417 : (Jvm.Cond.selects "QuerySteps" ({ cls := "QuerySteps", name := "read", desc := "(I)I" } : Jvm.MethodName) ({ cls := "QuerySteps", name := "read", desc := "(I)I" } : Jvm.MethodName)) ∈ zTB := zTB_of 417 (by decide +kernel) (by decide +kernel)
theorem mw_418 : (Jvm.Cond.code ({ cls := "QuerySteps", name := "read", desc := "(I)I" } : Jvm.MethodName) prog_1_method_5_code (5 : Nat) (Option.some Jvm.ClassFile.FieldType.int)) ∈ zTB := zTB_of 418 (by decide +kernel) (by decide +kernel)
theorem mw_419 : (Jvm.Cond.methodLink "QuerySteps" (91 : Nat) ({ cls := "QuerySteps$Unknown", name := "forget", desc := "()V" } : Jvm.MethodName)) ∈ zTB := zTB_of 419 (by decide +kernel) (by decide +kernel)
theorem mw_420 : (Jvm.Cond.instanceMethod ({ cls := "QuerySteps$Unknown", name := "forget", desc := "()V" } : Jvm.MethodName)) ∈ zTB := zTB_of 420 (by decide +kernel) (by decide +kernel)
theorem mw_421 : (Jvm.Cond.selects "QuerySteps$Unknown" ({ cls := "QuerySteps$Unknown", name := "forget", desc := "()V" } : Jvm.MethodName) ({ cls := "QuerySteps$Unknown", name := "forget", desc := "()V" } : Jvm.MethodName)) ∈ zTB := zTB_of 421 (by decide +kernel) (by decide +kernel)
theorem mw_422 : (Jvm.Cond.code ({ cls := "QuerySteps$Unknown", name := "forget", desc := "()V" } : Jvm.MethodName) prog_11_method_2_code (1 : Nat) (Option.none : Option Jvm.ClassFile.FieldType)) ∈ zTB := zTB_of 422 (by decide +kernel) (by decide +kernel)
theorem mw_423 : (Jvm.Cond.methodLink "QuerySteps" (94 : Nat) ({ cls := "QuerySteps$Tree", name := "clear", desc := "()V" } : Jvm.MethodName)) ∈ zTB := zTB_of 423 (by decide +kernel) (by decide +kernel)
theorem mw_424 : (Jvm.Cond.instanceMethod ({ cls := "QuerySteps$Tree", name := "clear", desc := "()V" } : Jvm.MethodName)) ∈ zTB := zTB_of 424 (by decide +kernel) (by decide +kernel)
theorem mw_425 : (Jvm.Cond.selects "QuerySteps$Tree" ({ cls := "QuerySteps$Tree", name := "clear", desc := "()V" } : Jvm.MethodName) ({ cls := "QuerySteps$Tree", name := "clear", desc := "()V" } : Jvm.MethodName)) ∈ zTB := zTB_of 425 (by decide +kernel) (by decide +kernel)
theorem mw_426 : (Jvm.Cond.code ({ cls := "QuerySteps$Tree", name := "clear", desc := "()V" } : Jvm.MethodName) prog_10_method_2_code (1 : Nat) (Option.none : Option Jvm.ClassFile.FieldType)) ∈ zTB := zTB_of 426 (by decide +kernel) (by decide +kernel)
theorem mw_427 : (Jvm.Cond.methodLink "QuerySteps" (95 : Nat) ({ cls := "QuerySteps$Source", name := "moveTo", desc := "(I)V" } : Jvm.MethodName)) ∈ zTB := zTB_of 427 (by decide +kernel) (by decide +kernel)
theorem mw_428 : (Jvm.Cond.methodLink "QuerySteps" (98 : Nat) ({ cls := "QuerySteps$Reader", name := "takesTree", desc := "(I)Z" } : Jvm.MethodName)) ∈ zTB := zTB_of 428 (by decide +kernel) (by decide +kernel)
theorem mw_430 : (Jvm.Cond.sameMethod "QuerySteps$Reader" "QuerySteps$Reader" "takesTree" "(I)Z") ∈ zTB := zTB_of 430 (by decide +kernel) (by decide +kernel)
theorem mw_431 : (Jvm.Cond.selects "QuerySteps$BetweenReader" ({ cls := "QuerySteps$Reader", name := "takesTree", desc := "(I)Z" } : Jvm.MethodName) ({ cls := "QuerySteps$BetweenReader", name := "takesTree", desc := "(I)Z" } : Jvm.MethodName)) ∈ zTB := zTB_of 431 (by decide +kernel) (by decide +kernel)
theorem mw_432 : (Jvm.Cond.instanceMethod ({ cls := "QuerySteps$BetweenReader", name := "takesTree", desc := "(I)Z" } : Jvm.MethodName)) ∈ zTB := zTB_of 432 (by decide +kernel) (by decide +kernel)
theorem mw_433 : (Jvm.Cond.code ({ cls := "QuerySteps$BetweenReader", name := "takesTree", desc := "(I)Z" } : Jvm.MethodName) prog_2_method_2_code (6 : Nat) (Option.some Jvm.ClassFile.FieldType.boolean)) ∈ zTB := zTB_of 433 (by decide +kernel) (by decide +kernel)
theorem mw_434 : (Jvm.Cond.methodLink "QuerySteps$BetweenReader" (15 : Nat) ({ cls := "QuerySteps$Tree", name := "size", desc := "()I" } : Jvm.MethodName)) ∈ zTB := zTB_of 434 (by decide +kernel) (by decide +kernel)
theorem mw_435 : (Jvm.Cond.instanceMethod ({ cls := "QuerySteps$Tree", name := "size", desc := "()I" } : Jvm.MethodName)) ∈ zTB := zTB_of 435 (by decide +kernel) (by decide +kernel)
theorem mw_436 : (Jvm.Cond.selects "QuerySteps$Tree" ({ cls := "QuerySteps$Tree", name := "size", desc := "()I" } : Jvm.MethodName) ({ cls := "QuerySteps$Tree", name := "size", desc := "()I" } : Jvm.MethodName)) ∈ zTB := zTB_of 436 (by decide +kernel) (by decide +kernel)
theorem mw_437 : (Jvm.Cond.code ({ cls := "QuerySteps$Tree", name := "size", desc := "()I" } : Jvm.MethodName) prog_10_method_3_code (1 : Nat) (Option.some Jvm.ClassFile.FieldType.int)) ∈ zTB := zTB_of 437 (by decide +kernel) (by decide +kernel)
theorem mw_438 : (Jvm.Cond.methodLink "QuerySteps$BetweenReader" (21 : Nat) ({ cls := "QuerySteps$BetweenReader", name := "takesTerm", desc := "(I)Z" } : Jvm.MethodName)) ∈ zTB := zTB_of 438 (by decide +kernel) (by decide +kernel)
theorem mw_440 : (Jvm.Cond.instanceMethod ({ cls := "QuerySteps$BetweenReader", name := "takesTerm", desc := "(I)Z" } : Jvm.MethodName)) ∈ zTB := zTB_of 440 (by decide +kernel) (by decide +kernel)
theorem mw_441 : (Jvm.Cond.code ({ cls := "QuerySteps$BetweenReader", name := "takesTerm", desc := "(I)Z" } : Jvm.MethodName) prog_2_method_4_code (3 : Nat) (Option.some Jvm.ClassFile.FieldType.boolean)) ∈ zTB := zTB_of 441 (by decide +kernel) (by decide +kernel)
theorem mw_442 : (Jvm.Cond.methodLink "QuerySteps$BetweenReader" (53 : Nat) ({ cls := "QuerySteps$Source", name := "place", desc := "()I" } : Jvm.MethodName)) ∈ zTB := zTB_of 442 (by decide +kernel) (by decide +kernel)
theorem mw_443 : (Jvm.Cond.methodLink "QuerySteps$BetweenReader" (56 : Nat) ({ cls := "QuerySteps$Source", name := "signAt", desc := "(I)I" } : Jvm.MethodName)) ∈ zTB := zTB_of 443 (by decide +kernel) (by decide +kernel)
theorem mw_444 : (Jvm.Cond.methodLink "QuerySteps$BetweenReader" (29 : Nat) ({ cls := "QuerySteps$Source", name := "take", desc := "(I)Z" } : Jvm.MethodName)) ∈ zTB := zTB_of 444 (by decide +kernel) (by decide +kernel)
theorem mw_445 : (Jvm.Cond.instanceMethod ({ cls := "QuerySteps$Source", name := "take", desc := "(I)Z" } : Jvm.MethodName)) ∈ zTB := zTB_of 445 (by decide +kernel) (by decide +kernel)
theorem mw_446 : (Jvm.Cond.selects "QuerySteps$Source" ({ cls := "QuerySteps$Source", name := "take", desc := "(I)Z" } : Jvm.MethodName) ({ cls := "QuerySteps$Source", name := "take", desc := "(I)Z" } : Jvm.MethodName)) ∈ zTB := zTB_of 446 (by decide +kernel) (by decide +kernel)
theorem mw_447 : (Jvm.Cond.code ({ cls := "QuerySteps$Source", name := "take", desc := "(I)Z" } : Jvm.MethodName) prog_9_method_9_code (2 : Nat) (Option.some Jvm.ClassFile.FieldType.boolean)) ∈ zTB := zTB_of 447 (by decide +kernel) (by decide +kernel)
theorem mw_448 : (Jvm.Cond.methodLink "QuerySteps$BetweenReader" (59 : Nat) ({ cls := "QuerySteps$BetweenReader", name := "takesTree", desc := "(I)Z" } : Jvm.MethodName)) ∈ zTB := zTB_of 448 (by decide +kernel) (by decide +kernel)
theorem mw_449 : (Jvm.Cond.methodLink "QuerySteps$BetweenReader" (62 : Nat) ({ cls := "QuerySteps$BetweenReader", name := "takeName", desc := "()I" } : Jvm.MethodName)) ∈ zTB := zTB_of 449 (by decide +kernel) (by decide +kernel)
theorem mw_450 : (Jvm.Cond.sameMethod "QuerySteps$BetweenReader" "QuerySteps$Reader" "takeName" "()I") ∈ zTB := zTB_of 450 (by decide +kernel) (by decide +kernel)
theorem mw_452 : (Jvm.Cond.selects "QuerySteps$BetweenReader" ({ cls := "QuerySteps$BetweenReader", name := "takeName", desc := "()I" } : Jvm.MethodName) ({ cls := "QuerySteps$Reader", name := "takeName", desc := "()I" } : Jvm.MethodName)) ∈ zTB := zTB_of 452 (by decide +kernel) (by decide +kernel)
theorem mw_453 : (Jvm.Cond.instanceMethod ({ cls := "QuerySteps$Reader", name := "takeName", desc := "()I" } : Jvm.MethodName)) ∈ zTB := zTB_of 453 (by decide +kernel) (by decide +kernel)
theorem mw_454 : (Jvm.Cond.code ({ cls := "QuerySteps$Reader", name := "takeName", desc := "()I" } : Jvm.MethodName) prog_7_method_3_code (3 : Nat) (Option.some Jvm.ClassFile.FieldType.int)) ∈ zTB := zTB_of 454 (by decide +kernel) (by decide +kernel)
theorem mw_455 : (Jvm.Cond.methodLink "QuerySteps$Reader" (27 : Nat) ({ cls := "QuerySteps$Source", name := "rowEnd", desc := "()I" } : Jvm.MethodName)) ∈ zTB := zTB_of 455 (by decide +kernel) (by decide +kernel)
theorem mw_456 : (Jvm.Cond.methodLink "QuerySteps$Reader" (33 : Nat) ({ cls := "QuerySteps$Source", name := "place", desc := "()I" } : Jvm.MethodName)) ∈ zTB := zTB_of 456 (by decide +kernel) (by decide +kernel)
theorem mw_457 : (Jvm.Cond.methodLink "QuerySteps$Reader" (36 : Nat) ({ cls := "QuerySteps$Indexes", name := "find", desc := "(LQuerySteps$Source;I)I" } : Jvm.MethodName)) ∈ zTB := zTB_of 457 (by decide +kernel) (by decide +kernel)
theorem mw_458 : (Jvm.Cond.methodLink "QuerySteps$Reader" (42 : Nat) ({ cls := "QuerySteps$Unknown", name := "keep", desc := "(LQuerySteps$Source;I)V" } : Jvm.MethodName)) ∈ zTB := zTB_of 458 (by decide +kernel) (by decide +kernel)
theorem mw_459 : (Jvm.Cond.instanceMethod ({ cls := "QuerySteps$Unknown", name := "keep", desc := "(LQuerySteps$Source;I)V" } : Jvm.MethodName)) ∈ zTB := zTB_of 459 (by decide +kernel) (by decide +kernel)
theorem mw_460 : (Jvm.Cond.selects "QuerySteps$Unknown" ({ cls := "QuerySteps$Unknown", name := "keep", desc := "(LQuerySteps$Source;I)V" } : Jvm.MethodName) ({ cls := "QuerySteps$Unknown", name := "keep", desc := "(LQuerySteps$Source;I)V" } : Jvm.MethodName)) ∈ zTB := zTB_of 460 (by decide +kernel) (by decide +kernel)
theorem mw_461 : (Jvm.Cond.code ({ cls := "QuerySteps$Unknown", name := "keep", desc := "(LQuerySteps$Source;I)V" } : Jvm.MethodName) prog_11_method_3_code (5 : Nat) (Option.none : Option Jvm.ClassFile.FieldType)) ∈ zTB := zTB_of 461 (by decide +kernel) (by decide +kernel)
theorem mw_462 : (Jvm.Cond.methodLink "QuerySteps$Unknown" (19 : Nat) ({ cls := "QuerySteps$Source", name := "place", desc := "()I" } : Jvm.MethodName)) ∈ zTB := zTB_of 462 (by decide +kernel) (by decide +kernel)
theorem mw_463 : (Jvm.Cond.methodLink "QuerySteps$Unknown" (25 : Nat) ({ cls := "QuerySteps$Source", name := "signAt", desc := "(I)I" } : Jvm.MethodName)) ∈ zTB := zTB_of 463 (by decide +kernel) (by decide +kernel)
theorem mw_464 : (Jvm.Cond.methodLink "QuerySteps$Reader" (48 : Nat) ({ cls := "QuerySteps$Tree", name := "isFull", desc := "()Z" } : Jvm.MethodName)) ∈ zTB := zTB_of 464 (by decide +kernel) (by decide +kernel)
theorem mw_465 : (Jvm.Cond.instanceMethod ({ cls := "QuerySteps$Tree", name := "isFull", desc := "()Z" } : Jvm.MethodName)) ∈ zTB := zTB_of 465 (by decide +kernel) (by decide +kernel)
theorem mw_466 : (Jvm.Cond.selects "QuerySteps$Tree" ({ cls := "QuerySteps$Tree", name := "isFull", desc := "()Z" } : Jvm.MethodName) ({ cls := "QuerySteps$Tree", name := "isFull", desc := "()Z" } : Jvm.MethodName)) ∈ zTB := zTB_of 466 (by decide +kernel) (by decide +kernel)
theorem mw_467 : (Jvm.Cond.code ({ cls := "QuerySteps$Tree", name := "isFull", desc := "()Z" } : Jvm.MethodName) prog_10_method_4_code (1 : Nat) (Option.some Jvm.ClassFile.FieldType.boolean)) ∈ zTB := zTB_of 467 (by decide +kernel) (by decide +kernel)
theorem mw_468 : (Jvm.Cond.methodLink "QuerySteps$Reader" (54 : Nat) ({ cls := "QuerySteps$Source", name := "moveTo", desc := "(I)V" } : Jvm.MethodName)) ∈ zTB := zTB_of 468 (by decide +kernel) (by decide +kernel)
theorem mw_469 : (Jvm.Cond.methodLink "QuerySteps$BetweenReader" (65 : Nat) ({ cls := "QuerySteps$BetweenReader", name := "takesValues", desc := "(I)Z" } : Jvm.MethodName)) ∈ zTB := zTB_of 469 (by decide +kernel) (by decide +kernel)
theorem mw_471 : (Jvm.Cond.instanceMethod ({ cls := "QuerySteps$BetweenReader", name := "takesValues", desc := "(I)Z" } : Jvm.MethodName)) ∈ zTB := zTB_of 471 (by decide +kernel) (by decide +kernel)
theorem mw_472 : (Jvm.Cond.code ({ cls := "QuerySteps$BetweenReader", name := "takesValues", desc := "(I)Z" } : Jvm.MethodName) prog_2_method_5_code (3 : Nat) (Option.some Jvm.ClassFile.FieldType.boolean)) ∈ zTB := zTB_of 472 (by decide +kernel) (by decide +kernel)
theorem mw_473 : (Jvm.Cond.methodLink "QuerySteps$BetweenReader" (68 : Nat) ({ cls := "QuerySteps$Source", name := "takeValue", desc := "()I" } : Jvm.MethodName)) ∈ zTB := zTB_of 473 (by decide +kernel) (by decide +kernel)
theorem mw_474 : (Jvm.Cond.instanceMethod ({ cls := "QuerySteps$Source", name := "takeValue", desc := "()I" } : Jvm.MethodName)) ∈ zTB := zTB_of 474 (by decide +kernel) (by decide +kernel)
theorem mw_475 : (Jvm.Cond.selects "QuerySteps$Source" ({ cls := "QuerySteps$Source", name := "takeValue", desc := "()I" } : Jvm.MethodName) ({ cls := "QuerySteps$Source", name := "takeValue", desc := "()I" } : Jvm.MethodName)) ∈ zTB := zTB_of 475 (by decide +kernel) (by decide +kernel)
theorem mw_476 : (Jvm.Cond.code ({ cls := "QuerySteps$Source", name := "takeValue", desc := "()I" } : Jvm.MethodName) prog_9_method_11_code (3 : Nat) (Option.some Jvm.ClassFile.FieldType.int)) ∈ zTB := zTB_of 476 (by decide +kernel) (by decide +kernel)
theorem mw_477 : (Jvm.Cond.methodLink "QuerySteps$Source" (30 : Nat) ({ cls := "QuerySteps$Source", name := "isDigit", desc := "(I)Z" } : Jvm.MethodName)) ∈ zTB := zTB_of 477 (by decide +kernel) (by decide +kernel)
theorem mw_478 : (Jvm.Cond.static ({ cls := "QuerySteps$Source", name := "isDigit", desc := "(I)Z" } : Jvm.MethodName)) ∈ zTB := zTB_of 478 (by decide +kernel) (by decide +kernel)
theorem mw_479 : (Jvm.Cond.code ({ cls := "QuerySteps$Source", name := "isDigit", desc := "(I)Z" } : Jvm.MethodName) prog_9_method_15_code (1 : Nat) (Option.some Jvm.ClassFile.FieldType.boolean)) ∈ zTB := zTB_of 479 (by decide +kernel) (by decide +kernel)
theorem mw_480 : (Jvm.Cond.methodLink "QuerySteps$BetweenReader" (71 : Nat) ({ cls := "QuerySteps$Tree", name := "append", desc := "(IIII)Z" } : Jvm.MethodName)) ∈ zTB := zTB_of 480 (by decide +kernel) (by decide +kernel)
theorem mw_481 : (Jvm.Cond.instanceMethod ({ cls := "QuerySteps$Tree", name := "append", desc := "(IIII)Z" } : Jvm.MethodName)) ∈ zTB := zTB_of 481 (by decide +kernel) (by decide +kernel)
theorem mw_482 : (Jvm.Cond.selects "QuerySteps$Tree" ({ cls := "QuerySteps$Tree", name := "append", desc := "(IIII)Z" } : Jvm.MethodName) ({ cls := "QuerySteps$Tree", name := "append", desc := "(IIII)Z" } : Jvm.MethodName)) ∈ zTB := zTB_of 482 (by decide +kernel) (by decide +kernel)
theorem mw_483 : (Jvm.Cond.code ({ cls := "QuerySteps$Tree", name := "append", desc := "(IIII)Z" } : Jvm.MethodName) prog_10_method_10_code (5 : Nat) (Option.some Jvm.ClassFile.FieldType.boolean)) ∈ zTB := zTB_of 483 (by decide +kernel) (by decide +kernel)
theorem mw_484 : (Jvm.Cond.methodLink "QuerySteps$Tree" (32 : Nat) ({ cls := "QuerySteps$Tree", name := "isFull", desc := "()Z" } : Jvm.MethodName)) ∈ zTB := zTB_of 484 (by decide +kernel) (by decide +kernel)
theorem mw_485 : (Jvm.Cond.methodLink "QuerySteps$Tree" (36 : Nat) ({ cls := "QuerySteps$Tree", name := "put", desc := "(IIIII)V" } : Jvm.MethodName)) ∈ zTB := zTB_of 485 (by decide +kernel) (by decide +kernel)
theorem mw_487 : (Jvm.Cond.instanceMethod ({ cls := "QuerySteps$Tree", name := "put", desc := "(IIIII)V" } : Jvm.MethodName)) ∈ zTB := zTB_of 487 (by decide +kernel) (by decide +kernel)
theorem mw_488 : (Jvm.Cond.code ({ cls := "QuerySteps$Tree", name := "put", desc := "(IIIII)V" } : Jvm.MethodName) prog_10_method_16_code (6 : Nat) (Option.none : Option Jvm.ClassFile.FieldType)) ∈ zTB := zTB_of 488 (by decide +kernel) (by decide +kernel)
theorem mw_489 : (Jvm.Cond.methodLink "QuerySteps$Tree" (28 : Nat) ({ cls := "QuerySteps$Tree", name := "has", desc := "(I)Z" } : Jvm.MethodName)) ∈ zTB := zTB_of 489 (by decide +kernel) (by decide +kernel)
theorem mw_491 : (Jvm.Cond.instanceMethod ({ cls := "QuerySteps$Tree", name := "has", desc := "(I)Z" } : Jvm.MethodName)) ∈ zTB := zTB_of 491 (by decide +kernel) (by decide +kernel)
theorem mw_492 : (Jvm.Cond.code ({ cls := "QuerySteps$Tree", name := "has", desc := "(I)Z" } : Jvm.MethodName) prog_10_method_5_code (2 : Nat) (Option.some Jvm.ClassFile.FieldType.boolean)) ∈ zTB := zTB_of 492 (by decide +kernel) (by decide +kernel)
theorem mw_493 : (Jvm.Cond.methodLink "QuerySteps$BetweenReader" (75 : Nat) ({ cls := "QuerySteps$BetweenReader", name := "takesGreatest", desc := "(II)Z" } : Jvm.MethodName)) ∈ zTB := zTB_of 493 (by decide +kernel) (by decide +kernel)
theorem mw_494 : (Jvm.Cond.sameMethod "QuerySteps$BetweenReader" "QuerySteps$Reader" "takesGreatest" "(II)Z") ∈ zTB := zTB_of 494 (by decide +kernel) (by decide +kernel)
theorem mw_496 : (Jvm.Cond.selects "QuerySteps$BetweenReader" ({ cls := "QuerySteps$BetweenReader", name := "takesGreatest", desc := "(II)Z" } : Jvm.MethodName) ({ cls := "QuerySteps$Reader", name := "takesGreatest", desc := "(II)Z" } : Jvm.MethodName)) ∈ zTB := zTB_of 496 (by decide +kernel) (by decide +kernel)
theorem mw_497 : (Jvm.Cond.instanceMethod ({ cls := "QuerySteps$Reader", name := "takesGreatest", desc := "(II)Z" } : Jvm.MethodName)) ∈ zTB := zTB_of 497 (by decide +kernel) (by decide +kernel)
theorem mw_498 : (Jvm.Cond.code ({ cls := "QuerySteps$Reader", name := "takesGreatest", desc := "(II)Z" } : Jvm.MethodName) prog_7_method_4_code (5 : Nat) (Option.some Jvm.ClassFile.FieldType.boolean)) ∈ zTB := zTB_of 498 (by decide +kernel) (by decide +kernel)
theorem mw_499 : (Jvm.Cond.methodLink "QuerySteps$Reader" (58 : Nat) ({ cls := "QuerySteps$Source", name := "takeValue", desc := "()I" } : Jvm.MethodName)) ∈ zTB := zTB_of 499 (by decide +kernel) (by decide +kernel)
theorem mw_500 : (Jvm.Cond.methodLink "QuerySteps$Reader" (61 : Nat) ({ cls := "QuerySteps$Tree", name := "append", desc := "(IIII)Z" } : Jvm.MethodName)) ∈ zTB := zTB_of 500 (by decide +kernel) (by decide +kernel)
theorem mw_501 : (Jvm.Cond.methodLink "QuerySteps$BetweenReader" (34 : Nat) ({ cls := "QuerySteps$BetweenReader", name := "takeJoint", desc := "(II)I" } : Jvm.MethodName)) ∈ zTB := zTB_of 501 (by decide +kernel) (by decide +kernel)
theorem mw_503 : (Jvm.Cond.instanceMethod ({ cls := "QuerySteps$BetweenReader", name := "takeJoint", desc := "(II)I" } : Jvm.MethodName)) ∈ zTB := zTB_of 503 (by decide +kernel) (by decide +kernel)
theorem mw_504 : (Jvm.Cond.code ({ cls := "QuerySteps$BetweenReader", name := "takeJoint", desc := "(II)I" } : Jvm.MethodName) prog_2_method_3_code (5 : Nat) (Option.some Jvm.ClassFile.FieldType.int)) ∈ zTB := zTB_of 504 (by decide +kernel) (by decide +kernel)
theorem mw_505 : (Jvm.Cond.methodLink "QuerySteps$BetweenReader" (38 : Nat) ({ cls := "QuerySteps$Source", name := "rowEnd", desc := "()I" } : Jvm.MethodName)) ∈ zTB := zTB_of 505 (by decide +kernel) (by decide +kernel)
theorem mw_506 : (Jvm.Cond.methodLink "QuerySteps$BetweenReader" (41 : Nat) ({ cls := "QuerySteps$Source", name := "joiningSort", desc := "(I)I" } : Jvm.MethodName)) ∈ zTB := zTB_of 506 (by decide +kernel) (by decide +kernel)
theorem mw_507 : (Jvm.Cond.methodLink "QuerySteps$BetweenReader" (45 : Nat) ({ cls := "QuerySteps$Tree", name := "insert", desc := "(II)Z" } : Jvm.MethodName)) ∈ zTB := zTB_of 507 (by decide +kernel) (by decide +kernel)
theorem mw_508 : (Jvm.Cond.instanceMethod ({ cls := "QuerySteps$Tree", name := "insert", desc := "(II)Z" } : Jvm.MethodName)) ∈ zTB := zTB_of 508 (by decide +kernel) (by decide +kernel)
theorem mw_509 : (Jvm.Cond.selects "QuerySteps$Tree" ({ cls := "QuerySteps$Tree", name := "insert", desc := "(II)Z" } : Jvm.MethodName) ({ cls := "QuerySteps$Tree", name := "insert", desc := "(II)Z" } : Jvm.MethodName)) ∈ zTB := zTB_of 509 (by decide +kernel) (by decide +kernel)
theorem mw_510 : (Jvm.Cond.code ({ cls := "QuerySteps$Tree", name := "insert", desc := "(II)Z" } : Jvm.MethodName) prog_10_method_11_code (4 : Nat) (Option.some Jvm.ClassFile.FieldType.boolean)) ∈ zTB := zTB_of 510 (by decide +kernel) (by decide +kernel)
theorem mw_511 : (Jvm.Cond.methodLink "QuerySteps$Tree" (40 : Nat) ({ cls := "QuerySteps$Tree", name := "copyNode", desc := "(ILQuerySteps$Tree;I)V" } : Jvm.MethodName)) ∈ zTB := zTB_of 511 (by decide +kernel) (by decide +kernel)
theorem mw_513 : (Jvm.Cond.instanceMethod ({ cls := "QuerySteps$Tree", name := "copyNode", desc := "(ILQuerySteps$Tree;I)V" } : Jvm.MethodName)) ∈ zTB := zTB_of 513 (by decide +kernel) (by decide +kernel)
theorem mw_514 : (Jvm.Cond.code ({ cls := "QuerySteps$Tree", name := "copyNode", desc := "(ILQuerySteps$Tree;I)V" } : Jvm.MethodName) prog_10_method_15_code (4 : Nat) (Option.none : Option Jvm.ClassFile.FieldType)) ∈ zTB := zTB_of 514 (by decide +kernel) (by decide +kernel)
theorem mw_515 : (Jvm.Cond.methodLink "QuerySteps$Tree" (48 : Nat) ({ cls := "QuerySteps$Tree", name := "sortAt", desc := "(I)I" } : Jvm.MethodName)) ∈ zTB := zTB_of 515 (by decide +kernel) (by decide +kernel)
end
section
theorem mw_516 : (Jvm.Cond.instanceMethod ({ cls := "QuerySteps$Tree", name := "sortAt", desc := "(I)I" } : Jvm.MethodName)) ∈ zTB := zTB_of 516 (by decide +kernel) (by decide +kernel)
theorem mw_517 : (Jvm.Cond.selects "QuerySteps$Tree" ({ cls := "QuerySteps$Tree", name := "sortAt", desc := "(I)I" } : Jvm.MethodName) ({ cls := "QuerySteps$Tree", name := "sortAt", desc := "(I)I" } : Jvm.MethodName)) ∈ zTB := zTB_of 517 (by decide +kernel) (by decide +kernel)
theorem mw_518 : (Jvm.Cond.code ({ cls := "QuerySteps$Tree", name := "sortAt", desc := "(I)I" } : Jvm.MethodName) prog_10_method_6_code (2 : Nat) (Option.some Jvm.ClassFile.FieldType.int)) ∈ zTB := zTB_of 518 (by decide +kernel) (by decide +kernel)
theorem mw_519 : (Jvm.Cond.methodLink "QuerySteps$Tree" (52 : Nat) ({ cls := "QuerySteps$Tree", name := "indexAt", desc := "(I)I" } : Jvm.MethodName)) ∈ zTB := zTB_of 519 (by decide +kernel) (by decide +kernel)
theorem mw_520 : (Jvm.Cond.instanceMethod ({ cls := "QuerySteps$Tree", name := "indexAt", desc := "(I)I" } : Jvm.MethodName)) ∈ zTB := zTB_of 520 (by decide +kernel) (by decide +kernel)
theorem mw_521 : (Jvm.Cond.selects "QuerySteps$Tree" ({ cls := "QuerySteps$Tree", name := "indexAt", desc := "(I)I" } : Jvm.MethodName) ({ cls := "QuerySteps$Tree", name := "indexAt", desc := "(I)I" } : Jvm.MethodName)) ∈ zTB := zTB_of 521 (by decide +kernel) (by decide +kernel)
theorem mw_522 : (Jvm.Cond.code ({ cls := "QuerySteps$Tree", name := "indexAt", desc := "(I)I" } : Jvm.MethodName) prog_10_method_7_code (2 : Nat) (Option.some Jvm.ClassFile.FieldType.int)) ∈ zTB := zTB_of 522 (by decide +kernel) (by decide +kernel)
theorem mw_523 : (Jvm.Cond.methodLink "QuerySteps$Tree" (55 : Nat) ({ cls := "QuerySteps$Tree", name := "leastAt", desc := "(I)I" } : Jvm.MethodName)) ∈ zTB := zTB_of 523 (by decide +kernel) (by decide +kernel)
theorem mw_524 : (Jvm.Cond.instanceMethod ({ cls := "QuerySteps$Tree", name := "leastAt", desc := "(I)I" } : Jvm.MethodName)) ∈ zTB := zTB_of 524 (by decide +kernel) (by decide +kernel)
theorem mw_525 : (Jvm.Cond.selects "QuerySteps$Tree" ({ cls := "QuerySteps$Tree", name := "leastAt", desc := "(I)I" } : Jvm.MethodName) ({ cls := "QuerySteps$Tree", name := "leastAt", desc := "(I)I" } : Jvm.MethodName)) ∈ zTB := zTB_of 525 (by decide +kernel) (by decide +kernel)
theorem mw_526 : (Jvm.Cond.code ({ cls := "QuerySteps$Tree", name := "leastAt", desc := "(I)I" } : Jvm.MethodName) prog_10_method_8_code (2 : Nat) (Option.some Jvm.ClassFile.FieldType.int)) ∈ zTB := zTB_of 526 (by decide +kernel) (by decide +kernel)
theorem mw_527 : (Jvm.Cond.methodLink "QuerySteps$Tree" (58 : Nat) ({ cls := "QuerySteps$Tree", name := "greatestAt", desc := "(I)I" } : Jvm.MethodName)) ∈ zTB := zTB_of 527 (by decide +kernel) (by decide +kernel)
theorem mw_528 : (Jvm.Cond.instanceMethod ({ cls := "QuerySteps$Tree", name := "greatestAt", desc := "(I)I" } : Jvm.MethodName)) ∈ zTB := zTB_of 528 (by decide +kernel) (by decide +kernel)
theorem mw_529 : (Jvm.Cond.selects "QuerySteps$Tree" ({ cls := "QuerySteps$Tree", name := "greatestAt", desc := "(I)I" } : Jvm.MethodName) ({ cls := "QuerySteps$Tree", name := "greatestAt", desc := "(I)I" } : Jvm.MethodName)) ∈ zTB := zTB_of 529 (by decide +kernel) (by decide +kernel)
theorem mw_530 : (Jvm.Cond.code ({ cls := "QuerySteps$Tree", name := "greatestAt", desc := "(I)I" } : Jvm.MethodName) prog_10_method_9_code (2 : Nat) (Option.some Jvm.ClassFile.FieldType.int)) ∈ zTB := zTB_of 530 (by decide +kernel) (by decide +kernel)
theorem mw_531 : (Jvm.Cond.methodLink "QuerySteps$BetweenReader" (49 : Nat) ({ cls := "QuerySteps$Source", name := "moveTo", desc := "(I)V" } : Jvm.MethodName)) ∈ zTB := zTB_of 531 (by decide +kernel) (by decide +kernel)
theorem mw_532 : (Jvm.Cond.selects "QuerySteps$FrontReader" ({ cls := "QuerySteps$Reader", name := "takesTree", desc := "(I)Z" } : Jvm.MethodName) ({ cls := "QuerySteps$FrontReader", name := "takesTree", desc := "(I)Z" } : Jvm.MethodName)) ∈ zTB := zTB_of 532 (by decide +kernel) (by decide +kernel)
theorem mw_533 : (Jvm.Cond.instanceMethod ({ cls := "QuerySteps$FrontReader", name := "takesTree", desc := "(I)Z" } : Jvm.MethodName)) ∈ zTB := zTB_of 533 (by decide +kernel) (by decide +kernel)
theorem mw_534 : (Jvm.Cond.code ({ cls := "QuerySteps$FrontReader", name := "takesTree", desc := "(I)Z" } : Jvm.MethodName) prog_3_method_2_code (4 : Nat) (Option.some Jvm.ClassFile.FieldType.boolean)) ∈ zTB := zTB_of 534 (by decide +kernel) (by decide +kernel)
theorem mw_535 : (Jvm.Cond.methodLink "QuerySteps$FrontReader" (15 : Nat) ({ cls := "QuerySteps$Source", name := "rowEnd", desc := "()I" } : Jvm.MethodName)) ∈ zTB := zTB_of 535 (by decide +kernel) (by decide +kernel)
theorem mw_536 : (Jvm.Cond.methodLink "QuerySteps$FrontReader" (21 : Nat) ({ cls := "QuerySteps$Source", name := "joiningSort", desc := "(I)I" } : Jvm.MethodName)) ∈ zTB := zTB_of 536 (by decide +kernel) (by decide +kernel)
theorem mw_537 : (Jvm.Cond.methodLink "QuerySteps$FrontReader" (25 : Nat) ({ cls := "QuerySteps$FrontReader", name := "takesLeaf", desc := "(I)Z" } : Jvm.MethodName)) ∈ zTB := zTB_of 537 (by decide +kernel) (by decide +kernel)
theorem mw_539 : (Jvm.Cond.instanceMethod ({ cls := "QuerySteps$FrontReader", name := "takesLeaf", desc := "(I)Z" } : Jvm.MethodName)) ∈ zTB := zTB_of 539 (by decide +kernel) (by decide +kernel)
theorem mw_540 : (Jvm.Cond.code ({ cls := "QuerySteps$FrontReader", name := "takesLeaf", desc := "(I)Z" } : Jvm.MethodName) prog_3_method_4_code (5 : Nat) (Option.some Jvm.ClassFile.FieldType.boolean)) ∈ zTB := zTB_of 540 (by decide +kernel) (by decide +kernel)
theorem mw_541 : (Jvm.Cond.methodLink "QuerySteps$FrontReader" (52 : Nat) ({ cls := "QuerySteps$FrontReader", name := "takeName", desc := "()I" } : Jvm.MethodName)) ∈ zTB := zTB_of 541 (by decide +kernel) (by decide +kernel)
theorem mw_542 : (Jvm.Cond.sameMethod "QuerySteps$FrontReader" "QuerySteps$Reader" "takeName" "()I") ∈ zTB := zTB_of 542 (by decide +kernel) (by decide +kernel)
theorem mw_543 : (Jvm.Cond.selects "QuerySteps$FrontReader" ({ cls := "QuerySteps$FrontReader", name := "takeName", desc := "()I" } : Jvm.MethodName) ({ cls := "QuerySteps$Reader", name := "takeName", desc := "()I" } : Jvm.MethodName)) ∈ zTB := zTB_of 543 (by decide +kernel) (by decide +kernel)
theorem mw_544 : (Jvm.Cond.methodLink "QuerySteps$FrontReader" (46 : Nat) ({ cls := "QuerySteps$Source", name := "take", desc := "(I)Z" } : Jvm.MethodName)) ∈ zTB := zTB_of 544 (by decide +kernel) (by decide +kernel)
theorem mw_545 : (Jvm.Cond.methodLink "QuerySteps$FrontReader" (55 : Nat) ({ cls := "QuerySteps$Source", name := "takeValue", desc := "()I" } : Jvm.MethodName)) ∈ zTB := zTB_of 545 (by decide +kernel) (by decide +kernel)
theorem mw_546 : (Jvm.Cond.methodLink "QuerySteps$FrontReader" (58 : Nat) ({ cls := "QuerySteps$Source", name := "place", desc := "()I" } : Jvm.MethodName)) ∈ zTB := zTB_of 546 (by decide +kernel) (by decide +kernel)
theorem mw_547 : (Jvm.Cond.methodLink "QuerySteps$FrontReader" (61 : Nat) ({ cls := "QuerySteps$Source", name := "signAt", desc := "(I)I" } : Jvm.MethodName)) ∈ zTB := zTB_of 547 (by decide +kernel) (by decide +kernel)
theorem mw_548 : (Jvm.Cond.methodLink "QuerySteps$FrontReader" (33 : Nat) ({ cls := "QuerySteps$Tree", name := "append", desc := "(IIII)Z" } : Jvm.MethodName)) ∈ zTB := zTB_of 548 (by decide +kernel) (by decide +kernel)
theorem mw_549 : (Jvm.Cond.methodLink "QuerySteps$FrontReader" (64 : Nat) ({ cls := "QuerySteps$FrontReader", name := "takesGreatest", desc := "(II)Z" } : Jvm.MethodName)) ∈ zTB := zTB_of 549 (by decide +kernel) (by decide +kernel)
theorem mw_550 : (Jvm.Cond.sameMethod "QuerySteps$FrontReader" "QuerySteps$Reader" "takesGreatest" "(II)Z") ∈ zTB := zTB_of 550 (by decide +kernel) (by decide +kernel)
theorem mw_551 : (Jvm.Cond.selects "QuerySteps$FrontReader" ({ cls := "QuerySteps$FrontReader", name := "takesGreatest", desc := "(II)Z" } : Jvm.MethodName) ({ cls := "QuerySteps$Reader", name := "takesGreatest", desc := "(II)Z" } : Jvm.MethodName)) ∈ zTB := zTB_of 551 (by decide +kernel) (by decide +kernel)
theorem mw_552 : (Jvm.Cond.methodLink "QuerySteps$FrontReader" (39 : Nat) ({ cls := "QuerySteps$Source", name := "moveTo", desc := "(I)V" } : Jvm.MethodName)) ∈ zTB := zTB_of 552 (by decide +kernel) (by decide +kernel)
theorem mw_553 : (Jvm.Cond.methodLink "QuerySteps$FrontReader" (43 : Nat) ({ cls := "QuerySteps$FrontReader", name := "takesBranch", desc := "(I)Z" } : Jvm.MethodName)) ∈ zTB := zTB_of 553 (by decide +kernel) (by decide +kernel)
theorem mw_555 : (Jvm.Cond.instanceMethod ({ cls := "QuerySteps$FrontReader", name := "takesBranch", desc := "(I)Z" } : Jvm.MethodName)) ∈ zTB := zTB_of 555 (by decide +kernel) (by decide +kernel)
theorem mw_556 : (Jvm.Cond.code ({ cls := "QuerySteps$FrontReader", name := "takesBranch", desc := "(I)Z" } : Jvm.MethodName) prog_3_method_3_code (2 : Nat) (Option.some Jvm.ClassFile.FieldType.boolean)) ∈ zTB := zTB_of 556 (by decide +kernel) (by decide +kernel)
theorem mw_557 : (Jvm.Cond.methodLink "QuerySteps$FrontReader" (49 : Nat) ({ cls := "QuerySteps$FrontReader", name := "takesTree", desc := "(I)Z" } : Jvm.MethodName)) ∈ zTB := zTB_of 557 (by decide +kernel) (by decide +kernel)
theorem mw_558 : (Jvm.Cond.methodLink "QuerySteps" (104 : Nat) ({ cls := "QuerySteps$Source", name := "isAtEnd", desc := "()Z" } : Jvm.MethodName)) ∈ zTB := zTB_of 558 (by decide +kernel) (by decide +kernel)
theorem mw_559 : (Jvm.Cond.instanceMethod ({ cls := "QuerySteps$Source", name := "isAtEnd", desc := "()Z" } : Jvm.MethodName)) ∈ zTB := zTB_of 559 (by decide +kernel) (by decide +kernel)
theorem mw_560 : (Jvm.Cond.selects "QuerySteps$Source" ({ cls := "QuerySteps$Source", name := "isAtEnd", desc := "()Z" } : Jvm.MethodName) ({ cls := "QuerySteps$Source", name := "isAtEnd", desc := "()Z" } : Jvm.MethodName)) ∈ zTB := zTB_of 560 (by decide +kernel) (by decide +kernel)
theorem mw_561 : (Jvm.Cond.code ({ cls := "QuerySteps$Source", name := "isAtEnd", desc := "()Z" } : Jvm.MethodName) prog_9_method_7_code (1 : Nat) (Option.some Jvm.ClassFile.FieldType.boolean)) ∈ zTB := zTB_of 561 (by decide +kernel) (by decide +kernel)
theorem mw_562 : (Jvm.Cond.methodLink "QuerySteps" (108 : Nat) ({ cls := "QuerySteps$Source", name := "place", desc := "()I" } : Jvm.MethodName)) ∈ zTB := zTB_of 562 (by decide +kernel) (by decide +kernel)
theorem mw_563 : (Jvm.Cond.methodLink "QuerySteps" (112 : Nat) ({ cls := "QuerySteps$Tree", name := "copyFrom", desc := "(LQuerySteps$Tree;)V" } : Jvm.MethodName)) ∈ zTB := zTB_of 563 (by decide +kernel) (by decide +kernel)
theorem mw_564 : (Jvm.Cond.instanceMethod ({ cls := "QuerySteps$Tree", name := "copyFrom", desc := "(LQuerySteps$Tree;)V" } : Jvm.MethodName)) ∈ zTB := zTB_of 564 (by decide +kernel) (by decide +kernel)
theorem mw_565 : (Jvm.Cond.selects "QuerySteps$Tree" ({ cls := "QuerySteps$Tree", name := "copyFrom", desc := "(LQuerySteps$Tree;)V" } : Jvm.MethodName) ({ cls := "QuerySteps$Tree", name := "copyFrom", desc := "(LQuerySteps$Tree;)V" } : Jvm.MethodName)) ∈ zTB := zTB_of 565 (by decide +kernel) (by decide +kernel)
theorem mw_566 : (Jvm.Cond.code ({ cls := "QuerySteps$Tree", name := "copyFrom", desc := "(LQuerySteps$Tree;)V" } : Jvm.MethodName) prog_10_method_12_code (3 : Nat) (Option.none : Option Jvm.ClassFile.FieldType)) ∈ zTB := zTB_of 566 (by decide +kernel) (by decide +kernel)
theorem mw_567 : (Jvm.Cond.methodLink "QuerySteps" (116 : Nat) ({ cls := "QuerySteps$Tree", name := "size", desc := "()I" } : Jvm.MethodName)) ∈ zTB := zTB_of 567 (by decide +kernel) (by decide +kernel)
theorem mw_568 : (Jvm.Cond.methodLink "QueryStepsLaw" (33 : Nat) ({ cls := "QuerySteps", name := "node", desc := "(II)I" } : Jvm.MethodName)) ∈ zTB := zTB_of 568 (by decide +kernel) (by decide +kernel)
theorem mw_569 : (Jvm.Cond.instanceMethod ({ cls := "QuerySteps", name := "node", desc := "(II)I" } : Jvm.MethodName)) ∈ zTB := zTB_of 569 (by decide +kernel) (by decide +kernel)
theorem mw_570 : (Jvm.Cond.selects "QuerySteps" ({ cls := "QuerySteps", name := "node", desc := "(II)I" } : Jvm.MethodName) ({ cls := "QuerySteps", name := "node", desc := "(II)I" } : Jvm.MethodName)) ∈ zTB := zTB_of 570 (by decide +kernel) (by decide +kernel)
theorem mw_571 : (Jvm.Cond.code ({ cls := "QuerySteps", name := "node", desc := "(II)I" } : Jvm.MethodName) prog_1_method_6_code (3 : Nat) (Option.some Jvm.ClassFile.FieldType.int)) ∈ zTB := zTB_of 571 (by decide +kernel) (by decide +kernel)
theorem mw_572 : (Jvm.Cond.methodLink "QuerySteps" (119 : Nat) ({ cls := "QuerySteps$Tree", name := "sortAt", desc := "(I)I" } : Jvm.MethodName)) ∈ zTB := zTB_of 572 (by decide +kernel) (by decide +kernel)
theorem mw_573 : (Jvm.Cond.methodLink "QuerySteps" (123 : Nat) ({ cls := "QuerySteps$Tree", name := "indexAt", desc := "(I)I" } : Jvm.MethodName)) ∈ zTB := zTB_of 573 (by decide +kernel) (by decide +kernel)
theorem mw_574 : (Jvm.Cond.methodLink "QuerySteps" (126 : Nat) ({ cls := "QuerySteps$Tree", name := "leastAt", desc := "(I)I" } : Jvm.MethodName)) ∈ zTB := zTB_of 574 (by decide +kernel) (by decide +kernel)
theorem mw_575 : (Jvm.Cond.methodLink "QuerySteps" (129 : Nat) ({ cls := "QuerySteps$Tree", name := "greatestAt", desc := "(I)I" } : Jvm.MethodName)) ∈ zTB := zTB_of 575 (by decide +kernel) (by decide +kernel)
theorem mw_576 : (Jvm.Cond.methodLink "QueryStepsLaw" (38 : Nat) ({ cls := "QuerySteps", name := "near", desc := "()I" } : Jvm.MethodName)) ∈ zTB := zTB_of 576 (by decide +kernel) (by decide +kernel)
theorem mw_577 : (Jvm.Cond.instanceMethod ({ cls := "QuerySteps", name := "near", desc := "()I" } : Jvm.MethodName)) ∈ zTB := zTB_of 577 (by decide +kernel) (by decide +kernel)
theorem mw_578 : (Jvm.Cond.selects "QuerySteps" ({ cls := "QuerySteps", name := "near", desc := "()I" } : Jvm.MethodName) ({ cls := "QuerySteps", name := "near", desc := "()I" } : Jvm.MethodName)) ∈ zTB := zTB_of 578 (by decide +kernel) (by decide +kernel)
theorem mw_579 : (Jvm.Cond.code ({ cls := "QuerySteps", name := "near", desc := "()I" } : Jvm.MethodName) prog_1_method_7_code (1 : Nat) (Option.some Jvm.ClassFile.FieldType.int)) ∈ zTB := zTB_of 579 (by decide +kernel) (by decide +kernel)
theorem mw_580 : (Jvm.Cond.methodLink "QuerySteps" (132 : Nat) ({ cls := "QuerySteps$Indexes", name := "nearest", desc := "(LQuerySteps$Unknown;)I" } : Jvm.MethodName)) ∈ zTB := zTB_of 580 (by decide +kernel) (by decide +kernel)
theorem mw_581 : (Jvm.Cond.instanceMethod ({ cls := "QuerySteps$Indexes", name := "nearest", desc := "(LQuerySteps$Unknown;)I" } : Jvm.MethodName)) ∈ zTB := zTB_of 581 (by decide +kernel) (by decide +kernel)
theorem mw_582 : (Jvm.Cond.selects "QuerySteps$Indexes" ({ cls := "QuerySteps$Indexes", name := "nearest", desc := "(LQuerySteps$Unknown;)I" } : Jvm.MethodName) ({ cls := "QuerySteps$Indexes", name := "nearest", desc := "(LQuerySteps$Unknown;)I" } : Jvm.MethodName)) ∈ zTB := zTB_of 582 (by decide +kernel) (by decide +kernel)
theorem mw_583 : (Jvm.Cond.code ({ cls := "QuerySteps$Indexes", name := "nearest", desc := "(LQuerySteps$Unknown;)I" } : Jvm.MethodName) prog_5_method_10_code (6 : Nat) (Option.some Jvm.ClassFile.FieldType.int)) ∈ zTB := zTB_of 583 (by decide +kernel) (by decide +kernel)
theorem mw_584 : (Jvm.Cond.methodLink "QuerySteps$Indexes" (79 : Nat) ({ cls := "QuerySteps$Unknown", name := "length", desc := "()I" } : Jvm.MethodName)) ∈ zTB := zTB_of 584 (by decide +kernel) (by decide +kernel)
theorem mw_585 : (Jvm.Cond.instanceMethod ({ cls := "QuerySteps$Unknown", name := "length", desc := "()I" } : Jvm.MethodName)) ∈ zTB := zTB_of 585 (by decide +kernel) (by decide +kernel)
theorem mw_586 : (Jvm.Cond.selects "QuerySteps$Unknown" ({ cls := "QuerySteps$Unknown", name := "length", desc := "()I" } : Jvm.MethodName) ({ cls := "QuerySteps$Unknown", name := "length", desc := "()I" } : Jvm.MethodName)) ∈ zTB := zTB_of 586 (by decide +kernel) (by decide +kernel)
theorem mw_587 : (Jvm.Cond.code ({ cls := "QuerySteps$Unknown", name := "length", desc := "()I" } : Jvm.MethodName) prog_11_method_4_code (1 : Nat) (Option.some Jvm.ClassFile.FieldType.int)) ∈ zTB := zTB_of 587 (by decide +kernel) (by decide +kernel)
theorem mw_588 : (Jvm.Cond.methodLink "QuerySteps$Indexes" (82 : Nat) ({ cls := "QuerySteps$Indexes", name := "changesTo", desc := "(ILQuerySteps$Unknown;)I" } : Jvm.MethodName)) ∈ zTB := zTB_of 588 (by decide +kernel) (by decide +kernel)
theorem mw_590 : (Jvm.Cond.instanceMethod ({ cls := "QuerySteps$Indexes", name := "changesTo", desc := "(ILQuerySteps$Unknown;)I" } : Jvm.MethodName)) ∈ zTB := zTB_of 590 (by decide +kernel) (by decide +kernel)
theorem mw_591 : (Jvm.Cond.code ({ cls := "QuerySteps$Indexes", name := "changesTo", desc := "(ILQuerySteps$Unknown;)I" } : Jvm.MethodName) prog_5_method_11_code (8 : Nat) (Option.some Jvm.ClassFile.FieldType.int)) ∈ zTB := zTB_of 591 (by decide +kernel) (by decide +kernel)
theorem mw_592 : (Jvm.Cond.methodLink "QuerySteps$Indexes" (86 : Nat) ({ cls := "QuerySteps$Unknown", name := "letterAt", desc := "(I)I" } : Jvm.MethodName)) ∈ zTB := zTB_of 592 (by decide +kernel) (by decide +kernel)
theorem mw_593 : (Jvm.Cond.instanceMethod ({ cls := "QuerySteps$Unknown", name := "letterAt", desc := "(I)I" } : Jvm.MethodName)) ∈ zTB := zTB_of 593 (by decide +kernel) (by decide +kernel)
theorem mw_594 : (Jvm.Cond.selects "QuerySteps$Unknown" ({ cls := "QuerySteps$Unknown", name := "letterAt", desc := "(I)I" } : Jvm.MethodName) ({ cls := "QuerySteps$Unknown", name := "letterAt", desc := "(I)I" } : Jvm.MethodName)) ∈ zTB := zTB_of 594 (by decide +kernel) (by decide +kernel)
theorem mw_595 : (Jvm.Cond.code ({ cls := "QuerySteps$Unknown", name := "letterAt", desc := "(I)I" } : Jvm.MethodName) prog_11_method_5_code (2 : Nat) (Option.some Jvm.ClassFile.FieldType.int)) ∈ zTB := zTB_of 595 (by decide +kernel) (by decide +kernel)
theorem mw_596 : (Jvm.Cond.methodLink "QuerySteps$Indexes" (89 : Nat) ({ cls := "java/lang/Math", name := "min", desc := "(II)I" } : Jvm.MethodName)) ∈ zTB := zTB_of 596 (by decide +kernel) (by decide +kernel)
theorem mw_597 : (Jvm.Cond.static ({ cls := "java/lang/Math", name := "min", desc := "(II)I" } : Jvm.MethodName)) ∈ zTB := zTB_of 597 (by decide +kernel) (by decide +kernel)
theorem mw_598 : (Jvm.Cond.code ({ cls := "java/lang/Math", name := "min", desc := "(II)I" } : Jvm.MethodName) prog_14_method_69_code (2 : Nat) (Option.some Jvm.ClassFile.FieldType.int)) ∈ zTB := zTB_of 598 (by decide +kernel) (by decide +kernel)
theorem mw_599 : (Jvm.Cond.methodLink "QueryStepsLaw" (44 : Nat) ({ cls := "QuerySteps", name := "record", desc := "(J)I" } : Jvm.MethodName)) ∈ zTB := zTB_of 599 (by decide +kernel) (by decide +kernel)
theorem mw_600 : (Jvm.Cond.instanceMethod ({ cls := "QuerySteps", name := "record", desc := "(J)I" } : Jvm.MethodName)) ∈ zTB := zTB_of 600 (by decide +kernel) (by decide +kernel)
theorem mw_601 : (Jvm.Cond.selects "QuerySteps" ({ cls := "QuerySteps", name := "record", desc := "(J)I" } : Jvm.MethodName) ({ cls := "QuerySteps", name := "record", desc := "(J)I" } : Jvm.MethodName)) ∈ zTB := zTB_of 601 (by decide +kernel) (by decide +kernel)
theorem mw_602 : (Jvm.Cond.code ({ cls := "QuerySteps", name := "record", desc := "(J)I" } : Jvm.MethodName) prog_1_method_8_code (3 : Nat) (Option.some Jvm.ClassFile.FieldType.int)) ∈ zTB := zTB_of 602 (by decide +kernel) (by decide +kernel)
theorem mw_603 : (Jvm.Cond.methodLink "QuerySteps" (136 : Nat) ({ cls := "QuerySteps$Records", name := "add", desc := "(J)I" } : Jvm.MethodName)) ∈ zTB := zTB_of 603 (by decide +kernel) (by decide +kernel)
theorem mw_604 : (Jvm.Cond.instanceMethod ({ cls := "QuerySteps$Records", name := "add", desc := "(J)I" } : Jvm.MethodName)) ∈ zTB := zTB_of 604 (by decide +kernel) (by decide +kernel)
theorem mw_605 : (Jvm.Cond.selects "QuerySteps$Records" ({ cls := "QuerySteps$Records", name := "add", desc := "(J)I" } : Jvm.MethodName) ({ cls := "QuerySteps$Records", name := "add", desc := "(J)I" } : Jvm.MethodName)) ∈ zTB := zTB_of 605 (by decide +kernel) (by decide +kernel)
theorem mw_606 : (Jvm.Cond.code ({ cls := "QuerySteps$Records", name := "add", desc := "(J)I" } : Jvm.MethodName) prog_8_method_5_code (3 : Nat) (Option.some Jvm.ClassFile.FieldType.int)) ∈ zTB := zTB_of 606 (by decide +kernel) (by decide +kernel)
theorem mw_607 : (Jvm.Cond.methodLink "QuerySteps$Records" (37 : Nat) ({ cls := "QuerySteps$Records", name := "momentOf", desc := "(I)J" } : Jvm.MethodName)) ∈ zTB := zTB_of 607 (by decide +kernel) (by decide +kernel)
theorem mw_608 : (Jvm.Cond.instanceMethod ({ cls := "QuerySteps$Records", name := "momentOf", desc := "(I)J" } : Jvm.MethodName)) ∈ zTB := zTB_of 608 (by decide +kernel) (by decide +kernel)
theorem mw_609 : (Jvm.Cond.selects "QuerySteps$Records" ({ cls := "QuerySteps$Records", name := "momentOf", desc := "(I)J" } : Jvm.MethodName) ({ cls := "QuerySteps$Records", name := "momentOf", desc := "(I)J" } : Jvm.MethodName)) ∈ zTB := zTB_of 609 (by decide +kernel) (by decide +kernel)
theorem mw_610 : (Jvm.Cond.code ({ cls := "QuerySteps$Records", name := "momentOf", desc := "(I)J" } : Jvm.MethodName) prog_8_method_4_code (2 : Nat) (Option.some Jvm.ClassFile.FieldType.long)) ∈ zTB := zTB_of 610 (by decide +kernel) (by decide +kernel)
theorem mw_611 : (Jvm.Cond.methodLink "QuerySteps$Records" (33 : Nat) ({ cls := "QuerySteps$Records", name := "has", desc := "(I)Z" } : Jvm.MethodName)) ∈ zTB := zTB_of 611 (by decide +kernel) (by decide +kernel)
theorem mw_613 : (Jvm.Cond.instanceMethod ({ cls := "QuerySteps$Records", name := "has", desc := "(I)Z" } : Jvm.MethodName)) ∈ zTB := zTB_of 613 (by decide +kernel) (by decide +kernel)
theorem mw_614 : (Jvm.Cond.code ({ cls := "QuerySteps$Records", name := "has", desc := "(I)Z" } : Jvm.MethodName) prog_8_method_3_code (2 : Nat) (Option.some Jvm.ClassFile.FieldType.boolean)) ∈ zTB := zTB_of 614 (by decide +kernel) (by decide +kernel)
theorem mw_615 : (Jvm.Cond.methodLink "QueryStepsLaw" (49 : Nat) ({ cls := "QuerySteps", name := "entry", desc := "(III)I" } : Jvm.MethodName)) ∈ zTB := zTB_of 615 (by decide +kernel) (by decide +kernel)
theorem mw_616 : (Jvm.Cond.instanceMethod ({ cls := "QuerySteps", name := "entry", desc := "(III)I" } : Jvm.MethodName)) ∈ zTB := zTB_of 616 (by decide +kernel) (by decide +kernel)
theorem mw_617 : (Jvm.Cond.selects "QuerySteps" ({ cls := "QuerySteps", name := "entry", desc := "(III)I" } : Jvm.MethodName) ({ cls := "QuerySteps", name := "entry", desc := "(III)I" } : Jvm.MethodName)) ∈ zTB := zTB_of 617 (by decide +kernel) (by decide +kernel)
theorem mw_618 : (Jvm.Cond.code ({ cls := "QuerySteps", name := "entry", desc := "(III)I" } : Jvm.MethodName) prog_1_method_9_code (4 : Nat) (Option.some Jvm.ClassFile.FieldType.int)) ∈ zTB := zTB_of 618 (by decide +kernel) (by decide +kernel)
theorem mw_619 : (Jvm.Cond.methodLink "QuerySteps" (140 : Nat) ({ cls := "QuerySteps$Indexes", name := "has", desc := "(I)Z" } : Jvm.MethodName)) ∈ zTB := zTB_of 619 (by decide +kernel) (by decide +kernel)
theorem mw_620 : (Jvm.Cond.constant "QuerySteps" (143 : Nat) (99999 : Int32)) ∈ zTB := zTB_of 620 (by decide +kernel) (by decide +kernel)
theorem mw_621 : (Jvm.Cond.methodLink "QuerySteps" (144 : Nat) ({ cls := "QuerySteps$Records", name := "addEntry", desc := "(III)I" } : Jvm.MethodName)) ∈ zTB := zTB_of 621 (by decide +kernel) (by decide +kernel)
theorem mw_622 : (Jvm.Cond.instanceMethod ({ cls := "QuerySteps$Records", name := "addEntry", desc := "(III)I" } : Jvm.MethodName)) ∈ zTB := zTB_of 622 (by decide +kernel) (by decide +kernel)
theorem mw_623 : (Jvm.Cond.selects "QuerySteps$Records" ({ cls := "QuerySteps$Records", name := "addEntry", desc := "(III)I" } : Jvm.MethodName) ({ cls := "QuerySteps$Records", name := "addEntry", desc := "(III)I" } : Jvm.MethodName)) ∈ zTB := zTB_of 623 (by decide +kernel) (by decide +kernel)
theorem mw_624 : (Jvm.Cond.code ({ cls := "QuerySteps$Records", name := "addEntry", desc := "(III)I" } : Jvm.MethodName) prog_8_method_6_code (6 : Nat) (Option.some Jvm.ClassFile.FieldType.int)) ∈ zTB := zTB_of 624 (by decide +kernel) (by decide +kernel)
theorem mw_625 : (Jvm.Cond.methodLink "QueryStepsLaw" (54 : Nat) ({ cls := "QuerySteps", name := "save", desc := "(I)I" } : Jvm.MethodName)) ∈ zTB := zTB_of 625 (by decide +kernel) (by decide +kernel)
theorem mw_626 : (Jvm.Cond.instanceMethod ({ cls := "QuerySteps", name := "save", desc := "(I)I" } : Jvm.MethodName)) ∈ zTB := zTB_of 626 (by decide +kernel) (by decide +kernel)
theorem mw_627 : (Jvm.Cond.selects "QuerySteps" ({ cls := "QuerySteps", name := "save", desc := "(I)I" } : Jvm.MethodName) ({ cls := "QuerySteps", name := "save", desc := "(I)I" } : Jvm.MethodName)) ∈ zTB := zTB_of 627 (by decide +kernel) (by decide +kernel)
theorem mw_628 : (Jvm.Cond.code ({ cls := "QuerySteps", name := "save", desc := "(I)I" } : Jvm.MethodName) prog_1_method_10_code (2 : Nat) (Option.some Jvm.ClassFile.FieldType.int)) ∈ zTB := zTB_of 628 (by decide +kernel) (by decide +kernel)
theorem mw_629 : (Jvm.Cond.methodLink "QuerySteps" (148 : Nat) ({ cls := "QuerySteps$Question", name := "keep", desc := "(LQuerySteps$Tree;)V" } : Jvm.MethodName)) ∈ zTB := zTB_of 629 (by decide +kernel) (by decide +kernel)
theorem mw_630 : (Jvm.Cond.instanceMethod ({ cls := "QuerySteps$Question", name := "keep", desc := "(LQuerySteps$Tree;)V" } : Jvm.MethodName)) ∈ zTB := zTB_of 630 (by decide +kernel) (by decide +kernel)
theorem mw_631 : (Jvm.Cond.selects "QuerySteps$Question" ({ cls := "QuerySteps$Question", name := "keep", desc := "(LQuerySteps$Tree;)V" } : Jvm.MethodName) ({ cls := "QuerySteps$Question", name := "keep", desc := "(LQuerySteps$Tree;)V" } : Jvm.MethodName)) ∈ zTB := zTB_of 631 (by decide +kernel) (by decide +kernel)
theorem mw_632 : (Jvm.Cond.code ({ cls := "QuerySteps$Question", name := "keep", desc := "(LQuerySteps$Tree;)V" } : Jvm.MethodName) prog_6_method_2_code (2 : Nat) (Option.none : Option Jvm.ClassFile.FieldType)) ∈ zTB := zTB_of 632 (by decide +kernel) (by decide +kernel)
theorem mw_633 : (Jvm.Cond.methodLink "QuerySteps$Question" (27 : Nat) ({ cls := "QuerySteps$Tree", name := "copyFrom", desc := "(LQuerySteps$Tree;)V" } : Jvm.MethodName)) ∈ zTB := zTB_of 633 (by decide +kernel) (by decide +kernel)
theorem mw_634 : (Jvm.Cond.methodLink "QueryStepsLaw" (58 : Nat) ({ cls := "QuerySteps", name := "run", desc := "(I)I" } : Jvm.MethodName)) ∈ zTB := zTB_of 634 (by decide +kernel) (by decide +kernel)
theorem mw_635 : (Jvm.Cond.instanceMethod ({ cls := "QuerySteps", name := "run", desc := "(I)I" } : Jvm.MethodName)) ∈ zTB := zTB_of 635 (by decide +kernel) (by decide +kernel)
theorem mw_636 : (Jvm.Cond.selects "QuerySteps" ({ cls := "QuerySteps", name := "run", desc := "(I)I" } : Jvm.MethodName) ({ cls := "QuerySteps", name := "run", desc := "(I)I" } : Jvm.MethodName)) ∈ zTB := zTB_of 636 (by decide +kernel) (by decide +kernel)
theorem mw_637 : (Jvm.Cond.code ({ cls := "QuerySteps", name := "run", desc := "(I)I" } : Jvm.MethodName) prog_1_method_11_code (2 : Nat) (Option.some Jvm.ClassFile.FieldType.int)) ∈ zTB := zTB_of 637 (by decide +kernel) (by decide +kernel)
theorem mw_638 : (Jvm.Cond.methodLink "QuerySteps" (151 : Nat) ({ cls := "QuerySteps", name := "canRun", desc := "(I)Z" } : Jvm.MethodName)) ∈ zTB := zTB_of 638 (by decide +kernel) (by decide +kernel)
theorem mw_640 : (Jvm.Cond.instanceMethod ({ cls := "QuerySteps", name := "canRun", desc := "(I)Z" } : Jvm.MethodName)) ∈ zTB := zTB_of 640 (by decide +kernel) (by decide +kernel)
theorem mw_641 : (Jvm.Cond.code ({ cls := "QuerySteps", name := "canRun", desc := "(I)Z" } : Jvm.MethodName) prog_1_method_17_code (2 : Nat) (Option.some Jvm.ClassFile.FieldType.boolean)) ∈ zTB := zTB_of 641 (by decide +kernel) (by decide +kernel)
theorem mw_642 : (Jvm.Cond.methodLink "QuerySteps" (170 : Nat) ({ cls := "QuerySteps", name := "isSaved", desc := "(I)Z" } : Jvm.MethodName)) ∈ zTB := zTB_of 642 (by decide +kernel) (by decide +kernel)
theorem mw_644 : (Jvm.Cond.instanceMethod ({ cls := "QuerySteps", name := "isSaved", desc := "(I)Z" } : Jvm.MethodName)) ∈ zTB := zTB_of 644 (by decide +kernel) (by decide +kernel)
theorem mw_645 : (Jvm.Cond.code ({ cls := "QuerySteps", name := "isSaved", desc := "(I)Z" } : Jvm.MethodName) prog_1_method_16_code (2 : Nat) (Option.some Jvm.ClassFile.FieldType.boolean)) ∈ zTB := zTB_of 645 (by decide +kernel) (by decide +kernel)
theorem mw_646 : (Jvm.Cond.methodLink "QuerySteps" (178 : Nat) ({ cls := "QuerySteps$Indexes", name := "isBroken", desc := "(LQuerySteps$Tree;)Z" } : Jvm.MethodName)) ∈ zTB := zTB_of 646 (by decide +kernel) (by decide +kernel)
theorem mw_647 : (Jvm.Cond.instanceMethod ({ cls := "QuerySteps$Indexes", name := "isBroken", desc := "(LQuerySteps$Tree;)Z" } : Jvm.MethodName)) ∈ zTB := zTB_of 647 (by decide +kernel) (by decide +kernel)
theorem mw_648 : (Jvm.Cond.selects "QuerySteps$Indexes" ({ cls := "QuerySteps$Indexes", name := "isBroken", desc := "(LQuerySteps$Tree;)Z" } : Jvm.MethodName) ({ cls := "QuerySteps$Indexes", name := "isBroken", desc := "(LQuerySteps$Tree;)Z" } : Jvm.MethodName)) ∈ zTB := zTB_of 648 (by decide +kernel) (by decide +kernel)
theorem mw_649 : (Jvm.Cond.code ({ cls := "QuerySteps$Indexes", name := "isBroken", desc := "(LQuerySteps$Tree;)Z" } : Jvm.MethodName) prog_5_method_4_code (4 : Nat) (Option.some Jvm.ClassFile.FieldType.boolean)) ∈ zTB := zTB_of 649 (by decide +kernel) (by decide +kernel)
theorem mw_650 : (Jvm.Cond.methodLink "QuerySteps$Indexes" (33 : Nat) ({ cls := "QuerySteps$Tree", name := "size", desc := "()I" } : Jvm.MethodName)) ∈ zTB := zTB_of 650 (by decide +kernel) (by decide +kernel)
theorem mw_651 : (Jvm.Cond.methodLink "QuerySteps$Indexes" (39 : Nat) ({ cls := "QuerySteps$Tree", name := "indexAt", desc := "(I)I" } : Jvm.MethodName)) ∈ zTB := zTB_of 651 (by decide +kernel) (by decide +kernel)
theorem mw_652 : (Jvm.Cond.methodLink "QuerySteps" (154 : Nat) ({ cls := "QuerySteps$Hits", name := "gather", desc := "(LQuerySteps$Records;LQuerySteps$Question;Z)I" } : Jvm.MethodName)) ∈ zTB := zTB_of 652 (by decide +kernel) (by decide +kernel)
theorem mw_653 : (Jvm.Cond.instanceMethod ({ cls := "QuerySteps$Hits", name := "gather", desc := "(LQuerySteps$Records;LQuerySteps$Question;Z)I" } : Jvm.MethodName)) ∈ zTB := zTB_of 653 (by decide +kernel) (by decide +kernel)
theorem mw_654 : (Jvm.Cond.selects "QuerySteps$Hits" ({ cls := "QuerySteps$Hits", name := "gather", desc := "(LQuerySteps$Records;LQuerySteps$Question;Z)I" } : Jvm.MethodName) ({ cls := "QuerySteps$Hits", name := "gather", desc := "(LQuerySteps$Records;LQuerySteps$Question;Z)I" } : Jvm.MethodName)) ∈ zTB := zTB_of 654 (by decide +kernel) (by decide +kernel)
theorem mw_655 : (Jvm.Cond.code ({ cls := "QuerySteps$Hits", name := "gather", desc := "(LQuerySteps$Records;LQuerySteps$Question;Z)I" } : Jvm.MethodName) prog_4_method_3_code (6 : Nat) (Option.some Jvm.ClassFile.FieldType.int)) ∈ zTB := zTB_of 655 (by decide +kernel) (by decide +kernel)
theorem mw_656 : (Jvm.Cond.methodLink "QuerySteps$Hits" (19 : Nat) ({ cls := "QuerySteps$Records", name := "size", desc := "()I" } : Jvm.MethodName)) ∈ zTB := zTB_of 656 (by decide +kernel) (by decide +kernel)
theorem mw_657 : (Jvm.Cond.instanceMethod ({ cls := "QuerySteps$Records", name := "size", desc := "()I" } : Jvm.MethodName)) ∈ zTB := zTB_of 657 (by decide +kernel) (by decide +kernel)
theorem mw_658 : (Jvm.Cond.selects "QuerySteps$Records" ({ cls := "QuerySteps$Records", name := "size", desc := "()I" } : Jvm.MethodName) ({ cls := "QuerySteps$Records", name := "size", desc := "()I" } : Jvm.MethodName)) ∈ zTB := zTB_of 658 (by decide +kernel) (by decide +kernel)
theorem mw_659 : (Jvm.Cond.code ({ cls := "QuerySteps$Records", name := "size", desc := "()I" } : Jvm.MethodName) prog_8_method_2_code (1 : Nat) (Option.some Jvm.ClassFile.FieldType.int)) ∈ zTB := zTB_of 659 (by decide +kernel) (by decide +kernel)
theorem mw_660 : (Jvm.Cond.methodLink "QuerySteps$Hits" (25 : Nat) ({ cls := "QuerySteps$Records", name := "momentOf", desc := "(I)J" } : Jvm.MethodName)) ∈ zTB := zTB_of 660 (by decide +kernel) (by decide +kernel)
theorem mw_661 : (Jvm.Cond.methodLink "QuerySteps$Hits" (29 : Nat) ({ cls := "QuerySteps$Question", name := "isNew", desc := "(J)Z" } : Jvm.MethodName)) ∈ zTB := zTB_of 661 (by decide +kernel) (by decide +kernel)
theorem mw_662 : (Jvm.Cond.instanceMethod ({ cls := "QuerySteps$Question", name := "isNew", desc := "(J)Z" } : Jvm.MethodName)) ∈ zTB := zTB_of 662 (by decide +kernel) (by decide +kernel)
theorem mw_663 : (Jvm.Cond.selects "QuerySteps$Question" ({ cls := "QuerySteps$Question", name := "isNew", desc := "(J)Z" } : Jvm.MethodName) ({ cls := "QuerySteps$Question", name := "isNew", desc := "(J)Z" } : Jvm.MethodName)) ∈ zTB := zTB_of 663 (by decide +kernel) (by decide +kernel)
theorem mw_664 : (Jvm.Cond.code ({ cls := "QuerySteps$Question", name := "isNew", desc := "(J)Z" } : Jvm.MethodName) prog_6_method_4_code (3 : Nat) (Option.some Jvm.ClassFile.FieldType.boolean)) ∈ zTB := zTB_of 664 (by decide +kernel) (by decide +kernel)
theorem mw_665 : (Jvm.Cond.methodLink "QuerySteps$Hits" (39 : Nat) ({ cls := "QuerySteps$Records", name := "isMet", desc := "(LQuerySteps$Tree;I)Z" } : Jvm.MethodName)) ∈ zTB := zTB_of 665 (by decide +kernel) (by decide +kernel)
theorem mw_666 : (Jvm.Cond.instanceMethod ({ cls := "QuerySteps$Records", name := "isMet", desc := "(LQuerySteps$Tree;I)Z" } : Jvm.MethodName)) ∈ zTB := zTB_of 666 (by decide +kernel) (by decide +kernel)
theorem mw_667 : (Jvm.Cond.selects "QuerySteps$Records" ({ cls := "QuerySteps$Records", name := "isMet", desc := "(LQuerySteps$Tree;I)Z" } : Jvm.MethodName) ({ cls := "QuerySteps$Records", name := "isMet", desc := "(LQuerySteps$Tree;I)Z" } : Jvm.MethodName)) ∈ zTB := zTB_of 667 (by decide +kernel) (by decide +kernel)
theorem mw_668 : (Jvm.Cond.code ({ cls := "QuerySteps$Records", name := "isMet", desc := "(LQuerySteps$Tree;I)Z" } : Jvm.MethodName) prog_8_method_7_code (6 : Nat) (Option.some Jvm.ClassFile.FieldType.boolean)) ∈ zTB := zTB_of 668 (by decide +kernel) (by decide +kernel)
theorem mw_669 : (Jvm.Cond.methodLink "QuerySteps$Records" (41 : Nat) ({ cls := "QuerySteps$Tree", name := "size", desc := "()I" } : Jvm.MethodName)) ∈ zTB := zTB_of 669 (by decide +kernel) (by decide +kernel)
theorem mw_670 : (Jvm.Cond.methodLink "QuerySteps$Records" (47 : Nat) ({ cls := "QuerySteps$Tree", name := "sortAt", desc := "(I)I" } : Jvm.MethodName)) ∈ zTB := zTB_of 670 (by decide +kernel) (by decide +kernel)
theorem mw_671 : (Jvm.Cond.methodLink "QuerySteps$Records" (51 : Nat) ({ cls := "QuerySteps$Records", name := "isSimpleMet", desc := "(LQuerySteps$Tree;II)Z" } : Jvm.MethodName)) ∈ zTB := zTB_of 671 (by decide +kernel) (by decide +kernel)
theorem mw_673 : (Jvm.Cond.instanceMethod ({ cls := "QuerySteps$Records", name := "isSimpleMet", desc := "(LQuerySteps$Tree;II)Z" } : Jvm.MethodName)) ∈ zTB := zTB_of 673 (by decide +kernel) (by decide +kernel)
theorem mw_674 : (Jvm.Cond.code ({ cls := "QuerySteps$Records", name := "isSimpleMet", desc := "(LQuerySteps$Tree;II)Z" } : Jvm.MethodName) prog_8_method_9_code (7 : Nat) (Option.some Jvm.ClassFile.FieldType.boolean)) ∈ zTB := zTB_of 674 (by decide +kernel) (by decide +kernel)
theorem mw_675 : (Jvm.Cond.methodLink "QuerySteps$Records" (59 : Nat) ({ cls := "java/lang/Math", name := "min", desc := "(II)I" } : Jvm.MethodName)) ∈ zTB := zTB_of 675 (by decide +kernel) (by decide +kernel)
theorem mw_676 : (Jvm.Cond.methodLink "QuerySteps$Records" (65 : Nat) ({ cls := "QuerySteps$Tree", name := "indexAt", desc := "(I)I" } : Jvm.MethodName)) ∈ zTB := zTB_of 676 (by decide +kernel) (by decide +kernel)
theorem mw_677 : (Jvm.Cond.methodLink "QuerySteps$Records" (68 : Nat) ({ cls := "QuerySteps$Records", name := "isValueMet", desc := "(LQuerySteps$Tree;II)Z" } : Jvm.MethodName)) ∈ zTB := zTB_of 677 (by decide +kernel) (by decide +kernel)
theorem mw_678 : (Jvm.Cond.static ({ cls := "QuerySteps$Records", name := "isValueMet", desc := "(LQuerySteps$Tree;II)Z" } : Jvm.MethodName)) ∈ zTB := zTB_of 678 (by decide +kernel) (by decide +kernel)
theorem mw_679 : (Jvm.Cond.code ({ cls := "QuerySteps$Records", name := "isValueMet", desc := "(LQuerySteps$Tree;II)Z" } : Jvm.MethodName) prog_8_method_10_code (4 : Nat) (Option.some Jvm.ClassFile.FieldType.boolean)) ∈ zTB := zTB_of 679 (by decide +kernel) (by decide +kernel)
theorem mw_680 : (Jvm.Cond.methodLink "QuerySteps$Records" (71 : Nat) ({ cls := "QuerySteps$Tree", name := "leastAt", desc := "(I)I" } : Jvm.MethodName)) ∈ zTB := zTB_of 680 (by decide +kernel) (by decide +kernel)
theorem mw_681 : (Jvm.Cond.methodLink "QuerySteps$Records" (74 : Nat) ({ cls := "QuerySteps$Tree", name := "greatestAt", desc := "(I)I" } : Jvm.MethodName)) ∈ zTB := zTB_of 681 (by decide +kernel) (by decide +kernel)
theorem mw_682 : (Jvm.Cond.methodLink "QuerySteps$Records" (77 : Nat) ({ cls := "QuerySteps$Records", name := "isBeginning", desc := "(II)Z" } : Jvm.MethodName)) ∈ zTB := zTB_of 682 (by decide +kernel) (by decide +kernel)
theorem mw_683 : (Jvm.Cond.static ({ cls := "QuerySteps$Records", name := "isBeginning", desc := "(II)Z" } : Jvm.MethodName)) ∈ zTB := zTB_of 683 (by decide +kernel) (by decide +kernel)
theorem mw_684 : (Jvm.Cond.code ({ cls := "QuerySteps$Records", name := "isBeginning", desc := "(II)Z" } : Jvm.MethodName) prog_8_method_11_code (4 : Nat) (Option.some Jvm.ClassFile.FieldType.boolean)) ∈ zTB := zTB_of 684 (by decide +kernel) (by decide +kernel)
theorem mw_685 : (Jvm.Cond.methodLink "QuerySteps$Records" (55 : Nat) ({ cls := "QuerySteps$Records", name := "isJoinedMet", desc := "(IZZ)Z" } : Jvm.MethodName)) ∈ zTB := zTB_of 685 (by decide +kernel) (by decide +kernel)
theorem mw_686 : (Jvm.Cond.static ({ cls := "QuerySteps$Records", name := "isJoinedMet", desc := "(IZZ)Z" } : Jvm.MethodName)) ∈ zTB := zTB_of 686 (by decide +kernel) (by decide +kernel)
theorem mw_687 : (Jvm.Cond.code ({ cls := "QuerySteps$Records", name := "isJoinedMet", desc := "(IZZ)Z" } : Jvm.MethodName) prog_8_method_8_code (3 : Nat) (Option.some Jvm.ClassFile.FieldType.boolean)) ∈ zTB := zTB_of 687 (by decide +kernel) (by decide +kernel)
theorem mw_688 : (Jvm.Cond.methodLink "QuerySteps$Hits" (43 : Nat) ({ cls := "QuerySteps$Hits", name := "insert", desc := "(LQuerySteps$Records;I)V" } : Jvm.MethodName)) ∈ zTB := zTB_of 688 (by decide +kernel) (by decide +kernel)
theorem mw_690 : (Jvm.Cond.instanceMethod ({ cls := "QuerySteps$Hits", name := "insert", desc := "(LQuerySteps$Records;I)V" } : Jvm.MethodName)) ∈ zTB := zTB_of 690 (by decide +kernel) (by decide +kernel)
theorem mw_691 : (Jvm.Cond.code ({ cls := "QuerySteps$Hits", name := "insert", desc := "(LQuerySteps$Records;I)V" } : Jvm.MethodName) prog_4_method_4_code (4 : Nat) (Option.none : Option Jvm.ClassFile.FieldType)) ∈ zTB := zTB_of 691 (by decide +kernel) (by decide +kernel)
theorem mw_692 : (Jvm.Cond.methodLink "QueryStepsLaw" (62 : Nat) ({ cls := "QuerySteps", name := "alert", desc := "(I)I" } : Jvm.MethodName)) ∈ zTB := zTB_of 692 (by decide +kernel) (by decide +kernel)
theorem mw_693 : (Jvm.Cond.instanceMethod ({ cls := "QuerySteps", name := "alert", desc := "(I)I" } : Jvm.MethodName)) ∈ zTB := zTB_of 693 (by decide +kernel) (by decide +kernel)
theorem mw_694 : (Jvm.Cond.selects "QuerySteps" ({ cls := "QuerySteps", name := "alert", desc := "(I)I" } : Jvm.MethodName) ({ cls := "QuerySteps", name := "alert", desc := "(I)I" } : Jvm.MethodName)) ∈ zTB := zTB_of 694 (by decide +kernel) (by decide +kernel)
theorem mw_695 : (Jvm.Cond.code ({ cls := "QuerySteps", name := "alert", desc := "(I)I" } : Jvm.MethodName) prog_1_method_12_code (3 : Nat) (Option.some Jvm.ClassFile.FieldType.int)) ∈ zTB := zTB_of 695 (by decide +kernel) (by decide +kernel)
theorem mw_696 : (Jvm.Cond.methodLink "QuerySteps" (158 : Nat) ({ cls := "QuerySteps$Records", name := "size", desc := "()I" } : Jvm.MethodName)) ∈ zTB := zTB_of 696 (by decide +kernel) (by decide +kernel)
theorem mw_697 : (Jvm.Cond.methodLink "QuerySteps" (159 : Nat) ({ cls := "QuerySteps$Records", name := "momentOf", desc := "(I)J" } : Jvm.MethodName)) ∈ zTB := zTB_of 697 (by decide +kernel) (by decide +kernel)
theorem mw_698 : (Jvm.Cond.methodLink "QuerySteps" (163 : Nat) ({ cls := "QuerySteps$Question", name := "lookedUpTo", desc := "(J)V" } : Jvm.MethodName)) ∈ zTB := zTB_of 698 (by decide +kernel) (by decide +kernel)
theorem mw_699 : (Jvm.Cond.instanceMethod ({ cls := "QuerySteps$Question", name := "lookedUpTo", desc := "(J)V" } : Jvm.MethodName)) ∈ zTB := zTB_of 699 (by decide +kernel) (by decide +kernel)
theorem mw_700 : (Jvm.Cond.selects "QuerySteps$Question" ({ cls := "QuerySteps$Question", name := "lookedUpTo", desc := "(J)V" } : Jvm.MethodName) ({ cls := "QuerySteps$Question", name := "lookedUpTo", desc := "(J)V" } : Jvm.MethodName)) ∈ zTB := zTB_of 700 (by decide +kernel) (by decide +kernel)
theorem mw_701 : (Jvm.Cond.code ({ cls := "QuerySteps$Question", name := "lookedUpTo", desc := "(J)V" } : Jvm.MethodName) prog_6_method_3_code (3 : Nat) (Option.none : Option Jvm.ClassFile.FieldType)) ∈ zTB := zTB_of 701 (by decide +kernel) (by decide +kernel)
theorem mw_702 : (Jvm.Cond.methodLink "QueryStepsLaw" (66 : Nat) ({ cls := "QuerySteps", name := "at", desc := "(I)I" } : Jvm.MethodName)) ∈ zTB := zTB_of 702 (by decide +kernel) (by decide +kernel)
theorem mw_703 : (Jvm.Cond.instanceMethod ({ cls := "QuerySteps", name := "at", desc := "(I)I" } : Jvm.MethodName)) ∈ zTB := zTB_of 703 (by decide +kernel) (by decide +kernel)
theorem mw_704 : (Jvm.Cond.selects "QuerySteps" ({ cls := "QuerySteps", name := "at", desc := "(I)I" } : Jvm.MethodName) ({ cls := "QuerySteps", name := "at", desc := "(I)I" } : Jvm.MethodName)) ∈ zTB := zTB_of 704 (by decide +kernel) (by decide +kernel)
theorem mw_705 : (Jvm.Cond.code ({ cls := "QuerySteps", name := "at", desc := "(I)I" } : Jvm.MethodName) prog_1_method_13_code (2 : Nat) (Option.some Jvm.ClassFile.FieldType.int)) ∈ zTB := zTB_of 705 (by decide +kernel) (by decide +kernel)
theorem mw_706 : (Jvm.Cond.methodLink "QuerySteps" (167 : Nat) ({ cls := "QuerySteps$Hits", name := "numberAt", desc := "(I)I" } : Jvm.MethodName)) ∈ zTB := zTB_of 706 (by decide +kernel) (by decide +kernel)
theorem mw_707 : (Jvm.Cond.instanceMethod ({ cls := "QuerySteps$Hits", name := "numberAt", desc := "(I)I" } : Jvm.MethodName)) ∈ zTB := zTB_of 707 (by decide +kernel) (by decide +kernel)
theorem mw_708 : (Jvm.Cond.selects "QuerySteps$Hits" ({ cls := "QuerySteps$Hits", name := "numberAt", desc := "(I)I" } : Jvm.MethodName) ({ cls := "QuerySteps$Hits", name := "numberAt", desc := "(I)I" } : Jvm.MethodName)) ∈ zTB := zTB_of 708 (by decide +kernel) (by decide +kernel)
theorem mw_709 : (Jvm.Cond.code ({ cls := "QuerySteps$Hits", name := "numberAt", desc := "(I)I" } : Jvm.MethodName) prog_4_method_2_code (2 : Nat) (Option.some Jvm.ClassFile.FieldType.int)) ∈ zTB := zTB_of 709 (by decide +kernel) (by decide +kernel)
theorem mw_710 : (Jvm.Cond.methodLink "QueryStepsLaw" (70 : Nat) ({ cls := "QuerySteps", name := "same", desc := "(II)Z" } : Jvm.MethodName)) ∈ zTB := zTB_of 710 (by decide +kernel) (by decide +kernel)
theorem mw_711 : (Jvm.Cond.instanceMethod ({ cls := "QuerySteps", name := "same", desc := "(II)Z" } : Jvm.MethodName)) ∈ zTB := zTB_of 711 (by decide +kernel) (by decide +kernel)
theorem mw_712 : (Jvm.Cond.selects "QuerySteps" ({ cls := "QuerySteps", name := "same", desc := "(II)Z" } : Jvm.MethodName) ({ cls := "QuerySteps", name := "same", desc := "(II)Z" } : Jvm.MethodName)) ∈ zTB := zTB_of 712 (by decide +kernel) (by decide +kernel)
theorem mw_713 : (Jvm.Cond.code ({ cls := "QuerySteps", name := "same", desc := "(II)Z" } : Jvm.MethodName) prog_1_method_14_code (3 : Nat) (Option.some Jvm.ClassFile.FieldType.boolean)) ∈ zTB := zTB_of 713 (by decide +kernel) (by decide +kernel)
theorem mw_714 : (Jvm.Cond.methodLink "QuerySteps" (174 : Nat) ({ cls := "QuerySteps$Tree", name := "isLike", desc := "(LQuerySteps$Tree;)Z" } : Jvm.MethodName)) ∈ zTB := zTB_of 714 (by decide +kernel) (by decide +kernel)
theorem mw_715 : (Jvm.Cond.instanceMethod ({ cls := "QuerySteps$Tree", name := "isLike", desc := "(LQuerySteps$Tree;)Z" } : Jvm.MethodName)) ∈ zTB := zTB_of 715 (by decide +kernel) (by decide +kernel)
theorem mw_716 : (Jvm.Cond.selects "QuerySteps$Tree" ({ cls := "QuerySteps$Tree", name := "isLike", desc := "(LQuerySteps$Tree;)Z" } : Jvm.MethodName) ({ cls := "QuerySteps$Tree", name := "isLike", desc := "(LQuerySteps$Tree;)Z" } : Jvm.MethodName)) ∈ zTB := zTB_of 716 (by decide +kernel) (by decide +kernel)
theorem mw_717 : (Jvm.Cond.code ({ cls := "QuerySteps$Tree", name := "isLike", desc := "(LQuerySteps$Tree;)Z" } : Jvm.MethodName) prog_10_method_13_code (3 : Nat) (Option.some Jvm.ClassFile.FieldType.boolean)) ∈ zTB := zTB_of 717 (by decide +kernel) (by decide +kernel)
theorem mw_718 : (Jvm.Cond.methodLink "QuerySteps$Tree" (44 : Nat) ({ cls := "QuerySteps$Tree", name := "isNodeLike", desc := "(LQuerySteps$Tree;I)Z" } : Jvm.MethodName)) ∈ zTB := zTB_of 718 (by decide +kernel) (by decide +kernel)
theorem mw_720 : (Jvm.Cond.instanceMethod ({ cls := "QuerySteps$Tree", name := "isNodeLike", desc := "(LQuerySteps$Tree;I)Z" } : Jvm.MethodName)) ∈ zTB := zTB_of 720 (by decide +kernel) (by decide +kernel)
theorem mw_721 : (Jvm.Cond.code ({ cls := "QuerySteps$Tree", name := "isNodeLike", desc := "(LQuerySteps$Tree;I)Z" } : Jvm.MethodName) prog_10_method_14_code (3 : Nat) (Option.some Jvm.ClassFile.FieldType.boolean)) ∈ zTB := zTB_of 721 (by decide +kernel) (by decide +kernel)
theorem mw_722 : (Jvm.Cond.methodLink "QueryStepsLaw" (75 : Nat) ({ cls := "QuerySteps", name := "broken", desc := "()I" } : Jvm.MethodName)) ∈ zTB := zTB_of 722 (by decide +kernel) (by decide +kernel)
theorem mw_723 : (Jvm.Cond.instanceMethod ({ cls := "QuerySteps", name := "broken", desc := "()I" } : Jvm.MethodName)) ∈ zTB := zTB_of 723 (by decide +kernel) (by decide +kernel)
theorem mw_724 : (Jvm.Cond.selects "QuerySteps" ({ cls := "QuerySteps", name := "broken", desc := "()I" } : Jvm.MethodName) ({ cls := "QuerySteps", name := "broken", desc := "()I" } : Jvm.MethodName)) ∈ zTB := zTB_of 724 (by decide +kernel) (by decide +kernel)
theorem mw_725 : (Jvm.Cond.code ({ cls := "QuerySteps", name := "broken", desc := "()I" } : Jvm.MethodName) prog_1_method_15_code (3 : Nat) (Option.some Jvm.ClassFile.FieldType.int)) ∈ zTB := zTB_of 725 (by decide +kernel) (by decide +kernel)
theorem mw_726 : (Jvm.Cond.classLink "QueryStepsLaw" (10 : Nat) "QueryStepsModel") ∈ zTB := zTB_of 726 (by decide +kernel) (by decide +kernel)
theorem mw_727 : (Jvm.Cond.instantiable "QueryStepsModel" (29 : Nat)) ∈ zTB := zTB_of 727 (by decide +kernel) (by decide +kernel)
theorem mw_728 : (Jvm.Cond.methodLink "QueryStepsLaw" (12 : Nat) ({ cls := "QueryStepsModel", name := "<init>", desc := "()V" } : Jvm.MethodName)) ∈ zTB := zTB_of 728 (by decide +kernel) (by decide +kernel)
theorem mw_729 : (Jvm.Cond.instanceMethod ({ cls := "QueryStepsModel", name := "<init>", desc := "()V" } : Jvm.MethodName)) ∈ zTB := zTB_of 729 (by decide +kernel) (by decide +kernel)
theorem mw_730 : (Jvm.Cond.code ({ cls := "QueryStepsModel", name := "<init>", desc := "()V" } : Jvm.MethodName) prog_13_method_1_code (1 : Nat) (Option.none : Option Jvm.ClassFile.FieldType)) ∈ zTB := zTB_of 730 (by decide +kernel) (by decide +kernel)
theorem mw_731 : (Jvm.Cond.methodLink "QueryStepsModel" (1 : Nat) ({ cls := "java/lang/Object", name := "<init>", desc := "()V" } : Jvm.MethodName)) ∈ zTB := zTB_of 731 (by decide +kernel) (by decide +kernel)
theorem mw_732 : (Jvm.Cond.fieldLink "QueryStepsModel" (70 : Nat) "QueryStepsModel" "thrown" "I") ∈ zTB := zTB_of 732 (by decide +kernel) (by decide +kernel)
theorem mw_733 : (Jvm.Cond.fieldLink "QueryStepsModel" (7 : Nat) "QueryStepsModel" "said" "[B") ∈ zTB := zTB_of 733 (by decide +kernel) (by decide +kernel)
theorem mw_734 : (Jvm.Cond.fieldLink "QueryStepsModel" (74 : Nat) "QueryStepsModel" "size" "I") ∈ zTB := zTB_of 734 (by decide +kernel) (by decide +kernel)
theorem mw_735 : (Jvm.Cond.fieldLink "QueryStepsModel" (101 : Nat) "QueryStepsModel" "at" "I") ∈ zTB := zTB_of 735 (by decide +kernel) (by decide +kernel)
theorem mw_736 : (Jvm.Cond.fieldLink "QueryStepsModel" (98 : Nat) "QueryStepsModel" "wrong" "I") ∈ zTB := zTB_of 736 (by decide +kernel) (by decide +kernel)
theorem mw_737 : (Jvm.Cond.fieldLink "QueryStepsModel" (13 : Nat) "QueryStepsModel" "names" "[B") ∈ zTB := zTB_of 737 (by decide +kernel) (by decide +kernel)
theorem mw_738 : (Jvm.Cond.fieldLink "QueryStepsModel" (16 : Nat) "QueryStepsModel" "nameSizes" "[I") ∈ zTB := zTB_of 738 (by decide +kernel) (by decide +kernel)
theorem mw_739 : (Jvm.Cond.fieldLink "QueryStepsModel" (20 : Nat) "QueryStepsModel" "off" "[Z") ∈ zTB := zTB_of 739 (by decide +kernel) (by decide +kernel)
theorem mw_740 : (Jvm.Cond.fieldLink "QueryStepsModel" (85 : Nat) "QueryStepsModel" "indexes" "I") ∈ zTB := zTB_of 740 (by decide +kernel) (by decide +kernel)
theorem mw_741 : (Jvm.Cond.fieldLink "QueryStepsModel" (24 : Nat) "QueryStepsModel" "strange" "[B") ∈ zTB := zTB_of 741 (by decide +kernel) (by decide +kernel)
theorem mw_742 : (Jvm.Cond.fieldLink "QueryStepsModel" (113 : Nat) "QueryStepsModel" "strangeSize" "I") ∈ zTB := zTB_of 742 (by decide +kernel) (by decide +kernel)
theorem mw_743 : (Jvm.Cond.fieldLink "QueryStepsModel" (27 : Nat) "QueryStepsModel" "back" "[I") ∈ zTB := zTB_of 743 (by decide +kernel) (by decide +kernel)
theorem mw_744 : (Jvm.Cond.fieldLink "QueryStepsModel" (30 : Nat) "QueryStepsModel" "begins" "[I") ∈ zTB := zTB_of 744 (by decide +kernel) (by decide +kernel)
theorem mw_745 : (Jvm.Cond.fieldLink "QueryStepsModel" (116 : Nat) "QueryStepsModel" "backCount" "I") ∈ zTB := zTB_of 745 (by decide +kernel) (by decide +kernel)
theorem mw_746 : (Jvm.Cond.fieldLink "QueryStepsModel" (33 : Nat) "QueryStepsModel" "waits" "[I") ∈ zTB := zTB_of 746 (by decide +kernel) (by decide +kernel)
theorem mw_747 : (Jvm.Cond.fieldLink "QueryStepsModel" (137 : Nat) "QueryStepsModel" "waitCount" "I") ∈ zTB := zTB_of 747 (by decide +kernel) (by decide +kernel)
theorem mw_748 : (Jvm.Cond.fieldLink "QueryStepsModel" (36 : Nat) "QueryStepsModel" "trees" "[I") ∈ zTB := zTB_of 748 (by decide +kernel) (by decide +kernel)
theorem mw_749 : (Jvm.Cond.fieldLink "QueryStepsModel" (39 : Nat) "QueryStepsModel" "treeSizes" "[I") ∈ zTB := zTB_of 749 (by decide +kernel) (by decide +kernel)
theorem mw_750 : (Jvm.Cond.fieldLink "QueryStepsModel" (42 : Nat) "QueryStepsModel" "looked" "[Z") ∈ zTB := zTB_of 750 (by decide +kernel) (by decide +kernel)
theorem mw_751 : (Jvm.Cond.fieldLink "QueryStepsModel" (45 : Nat) "QueryStepsModel" "seen" "[J") ∈ zTB := zTB_of 751 (by decide +kernel) (by decide +kernel)
theorem mw_752 : (Jvm.Cond.fieldLink "QueryStepsModel" (175 : Nat) "QueryStepsModel" "records" "I") ∈ zTB := zTB_of 752 (by decide +kernel) (by decide +kernel)
theorem mw_753 : (Jvm.Cond.fieldLink "QueryStepsModel" (49 : Nat) "QueryStepsModel" "moments" "[J") ∈ zTB := zTB_of 753 (by decide +kernel) (by decide +kernel)
theorem mw_754 : (Jvm.Cond.fieldLink "QueryStepsModel" (52 : Nat) "QueryStepsModel" "entries" "[I") ∈ zTB := zTB_of 754 (by decide +kernel) (by decide +kernel)
theorem mw_755 : (Jvm.Cond.fieldLink "QueryStepsModel" (55 : Nat) "QueryStepsModel" "entryCounts" "[I") ∈ zTB := zTB_of 755 (by decide +kernel) (by decide +kernel)
theorem mw_756 : (Jvm.Cond.fieldLink "QueryStepsModel" (58 : Nat) "QueryStepsModel" "meets" "[Z") ∈ zTB := zTB_of 756 (by decide +kernel) (by decide +kernel)
theorem mw_757 : (Jvm.Cond.fieldLink "QueryStepsModel" (61 : Nat) "QueryStepsModel" "hits" "[I") ∈ zTB := zTB_of 757 (by decide +kernel) (by decide +kernel)
theorem mw_758 : (Jvm.Cond.fieldLink "QueryStepsModel" (185 : Nat) "QueryStepsModel" "hitCount" "I") ∈ zTB := zTB_of 758 (by decide +kernel) (by decide +kernel)
theorem mw_759 : (Jvm.Cond.fieldLink "QueryStepsModel" (64 : Nat) "QueryStepsModel" "far" "[I") ∈ zTB := zTB_of 759 (by decide +kernel) (by decide +kernel)
theorem mw_760 : (Jvm.Cond.fieldLink "QueryStepsModel" (67 : Nat) "QueryStepsModel" "farNext" "[I") ∈ zTB := zTB_of 760 (by decide +kernel) (by decide +kernel)
theorem mw_820 : (Jvm.Cond.methodLink "QueryStepsLaw" (17 : Nat) ({ cls := "QueryStepsModel", name := "sign", desc := "(I)V" } : Jvm.MethodName)) ∈ zTB := zTB_of 820 (by decide +kernel) (by decide +kernel)
theorem mw_821 : (Jvm.Cond.instanceMethod ({ cls := "QueryStepsModel", name := "sign", desc := "(I)V" } : Jvm.MethodName)) ∈ zTB := zTB_of 821 (by decide +kernel) (by decide +kernel)
theorem mw_822 : (Jvm.Cond.selects "QueryStepsModel" ({ cls := "QueryStepsModel", name := "sign", desc := "(I)V" } : Jvm.MethodName) ({ cls := "QueryStepsModel", name := "sign", desc := "(I)V" } : Jvm.MethodName)) ∈ zTB := zTB_of 822 (by decide +kernel) (by decide +kernel)
theorem mw_823 : (Jvm.Cond.code ({ cls := "QueryStepsModel", name := "sign", desc := "(I)V" } : Jvm.MethodName) prog_13_method_3_code (2 : Nat) (Option.none : Option Jvm.ClassFile.FieldType)) ∈ zTB := zTB_of 823 (by decide +kernel) (by decide +kernel)
theorem mw_824 : (Jvm.Cond.methodLink "QueryStepsLaw" (22 : Nat) ({ cls := "QueryStepsModel", name := "index", desc := "()I" } : Jvm.MethodName)) ∈ zTB := zTB_of 824 (by decide +kernel) (by decide +kernel)
theorem mw_825 : (Jvm.Cond.instanceMethod ({ cls := "QueryStepsModel", name := "index", desc := "()I" } : Jvm.MethodName)) ∈ zTB := zTB_of 825 (by decide +kernel) (by decide +kernel)
theorem mw_826 : (Jvm.Cond.selects "QueryStepsModel" ({ cls := "QueryStepsModel", name := "index", desc := "()I" } : Jvm.MethodName) ({ cls := "QueryStepsModel", name := "index", desc := "()I" } : Jvm.MethodName)) ∈ zTB := zTB_of 826 (by decide +kernel) (by decide +kernel)
theorem mw_827 : (Jvm.Cond.code ({ cls := "QueryStepsModel", name := "index", desc := "()I" } : Jvm.MethodName) prog_13_method_10_code (4 : Nat) (Option.some Jvm.ClassFile.FieldType.int)) ∈ zTB := zTB_of 827 (by decide +kernel) (by decide +kernel)
theorem mw_828 : (Jvm.Cond.methodLink "QueryStepsModel" (88 : Nat) ({ cls := "QueryStepsModel", name := "letters", desc := "(I)I" } : Jvm.MethodName)) ∈ zTB := zTB_of 828 (by decide +kernel) (by decide +kernel)
theorem mw_830 : (Jvm.Cond.instanceMethod ({ cls := "QueryStepsModel", name := "letters", desc := "(I)I" } : Jvm.MethodName)) ∈ zTB := zTB_of 830 (by decide +kernel) (by decide +kernel)
theorem mw_831 : (Jvm.Cond.code ({ cls := "QueryStepsModel", name := "letters", desc := "(I)I" } : Jvm.MethodName) prog_13_method_7_code (3 : Nat) (Option.some Jvm.ClassFile.FieldType.int)) ∈ zTB := zTB_of 831 (by decide +kernel) (by decide +kernel)
theorem mw_832 : (Jvm.Cond.methodLink "QueryStepsModel" (77 : Nat) ({ cls := "QueryStepsModel", name := "look", desc := "(I)I" } : Jvm.MethodName)) ∈ zTB := zTB_of 832 (by decide +kernel) (by decide +kernel)
theorem mw_834 : (Jvm.Cond.instanceMethod ({ cls := "QueryStepsModel", name := "look", desc := "(I)I" } : Jvm.MethodName)) ∈ zTB := zTB_of 834 (by decide +kernel) (by decide +kernel)
theorem mw_835 : (Jvm.Cond.code ({ cls := "QueryStepsModel", name := "look", desc := "(I)I" } : Jvm.MethodName) prog_13_method_4_code (2 : Nat) (Option.some Jvm.ClassFile.FieldType.int)) ∈ zTB := zTB_of 835 (by decide +kernel) (by decide +kernel)
theorem mw_836 : (Jvm.Cond.methodLink "QueryStepsModel" (81 : Nat) ({ cls := "QueryStepsModel", name := "isLetter", desc := "(I)Z" } : Jvm.MethodName)) ∈ zTB := zTB_of 836 (by decide +kernel) (by decide +kernel)
theorem mw_837 : (Jvm.Cond.static ({ cls := "QueryStepsModel", name := "isLetter", desc := "(I)Z" } : Jvm.MethodName)) ∈ zTB := zTB_of 837 (by decide +kernel) (by decide +kernel)
theorem mw_838 : (Jvm.Cond.code ({ cls := "QueryStepsModel", name := "isLetter", desc := "(I)Z" } : Jvm.MethodName) prog_13_method_5_code (1 : Nat) (Option.some Jvm.ClassFile.FieldType.boolean)) ∈ zTB := zTB_of 838 (by decide +kernel) (by decide +kernel)
theorem mw_839 : (Jvm.Cond.methodLink "QueryStepsModel" (91 : Nat) ({ cls := "QueryStepsModel", name := "word", desc := "(II)I" } : Jvm.MethodName)) ∈ zTB := zTB_of 839 (by decide +kernel) (by decide +kernel)
theorem mw_841 : (Jvm.Cond.instanceMethod ({ cls := "QueryStepsModel", name := "word", desc := "(II)I" } : Jvm.MethodName)) ∈ zTB := zTB_of 841 (by decide +kernel) (by decide +kernel)
theorem mw_842 : (Jvm.Cond.code ({ cls := "QueryStepsModel", name := "word", desc := "(II)I" } : Jvm.MethodName) prog_13_method_9_code (6 : Nat) (Option.some Jvm.ClassFile.FieldType.int)) ∈ zTB := zTB_of 842 (by decide +kernel) (by decide +kernel)
theorem mw_843 : (Jvm.Cond.methodLink "QueryStepsModel" (95 : Nat) ({ cls := "QueryStepsModel", name := "named", desc := "(II)I" } : Jvm.MethodName)) ∈ zTB := zTB_of 843 (by decide +kernel) (by decide +kernel)
theorem mw_845 : (Jvm.Cond.instanceMethod ({ cls := "QueryStepsModel", name := "named", desc := "(II)I" } : Jvm.MethodName)) ∈ zTB := zTB_of 845 (by decide +kernel) (by decide +kernel)
theorem mw_846 : (Jvm.Cond.code ({ cls := "QueryStepsModel", name := "named", desc := "(II)I" } : Jvm.MethodName) prog_13_method_8_code (6 : Nat) (Option.some Jvm.ClassFile.FieldType.int)) ∈ zTB := zTB_of 846 (by decide +kernel) (by decide +kernel)
theorem mw_847 : (Jvm.Cond.methodLink "QueryStepsLaw" (27 : Nat) ({ cls := "QueryStepsModel", name := "on", desc := "(IZ)Z" } : Jvm.MethodName)) ∈ zTB := zTB_of 847 (by decide +kernel) (by decide +kernel)
theorem mw_848 : (Jvm.Cond.instanceMethod ({ cls := "QueryStepsModel", name := "on", desc := "(IZ)Z" } : Jvm.MethodName)) ∈ zTB := zTB_of 848 (by decide +kernel) (by decide +kernel)
theorem mw_849 : (Jvm.Cond.selects "QueryStepsModel" ({ cls := "QueryStepsModel", name := "on", desc := "(IZ)Z" } : Jvm.MethodName) ({ cls := "QueryStepsModel", name := "on", desc := "(IZ)Z" } : Jvm.MethodName)) ∈ zTB := zTB_of 849 (by decide +kernel) (by decide +kernel)
theorem mw_850 : (Jvm.Cond.code ({ cls := "QueryStepsModel", name := "on", desc := "(IZ)Z" } : Jvm.MethodName) prog_13_method_11_code (4 : Nat) (Option.some Jvm.ClassFile.FieldType.boolean)) ∈ zTB := zTB_of 850 (by decide +kernel) (by decide +kernel)
theorem mw_851 : (Jvm.Cond.methodLink "QueryStepsLaw" (32 : Nat) ({ cls := "QueryStepsModel", name := "read", desc := "(I)I" } : Jvm.MethodName)) ∈ zTB := zTB_of 851 (by decide +kernel) (by decide +kernel)
theorem mw_852 : (Jvm.Cond.instanceMethod ({ cls := "QueryStepsModel", name := "read", desc := "(I)I" } : Jvm.MethodName)) ∈ zTB := zTB_of 852 (by decide +kernel) (by decide +kernel)
theorem mw_853 : (Jvm.Cond.selects "QueryStepsModel" ({ cls := "QueryStepsModel", name := "read", desc := "(I)I" } : Jvm.MethodName) ({ cls := "QueryStepsModel", name := "read", desc := "(I)I" } : Jvm.MethodName)) ∈ zTB := zTB_of 853 (by decide +kernel) (by decide +kernel)
theorem mw_854 : (Jvm.Cond.code ({ cls := "QueryStepsModel", name := "read", desc := "(I)I" } : Jvm.MethodName) prog_13_method_29_code (3 : Nat) (Option.some Jvm.ClassFile.FieldType.int)) ∈ zTB := zTB_of 854 (by decide +kernel) (by decide +kernel)
theorem mw_855 : (Jvm.Cond.methodLink "QueryStepsModel" (163 : Nat) ({ cls := "QueryStepsModel", name := "first", desc := "()Z" } : Jvm.MethodName)) ∈ zTB := zTB_of 855 (by decide +kernel) (by decide +kernel)
theorem mw_857 : (Jvm.Cond.instanceMethod ({ cls := "QueryStepsModel", name := "first", desc := "()Z" } : Jvm.MethodName)) ∈ zTB := zTB_of 857 (by decide +kernel) (by decide +kernel)
theorem mw_858 : (Jvm.Cond.code ({ cls := "QueryStepsModel", name := "first", desc := "()Z" } : Jvm.MethodName) prog_13_method_24_code (3 : Nat) (Option.some Jvm.ClassFile.FieldType.boolean)) ∈ zTB := zTB_of 858 (by decide +kernel) (by decide +kernel)
theorem mw_859 : (Jvm.Cond.methodLink "QueryStepsModel" (144 : Nat) ({ cls := "QueryStepsModel", name := "depth", desc := "()I" } : Jvm.MethodName)) ∈ zTB := zTB_of 859 (by decide +kernel) (by decide +kernel)
theorem mw_861 : (Jvm.Cond.instanceMethod ({ cls := "QueryStepsModel", name := "depth", desc := "()I" } : Jvm.MethodName)) ∈ zTB := zTB_of 861 (by decide +kernel) (by decide +kernel)
theorem mw_862 : (Jvm.Cond.code ({ cls := "QueryStepsModel", name := "depth", desc := "()I" } : Jvm.MethodName) prog_13_method_22_code (3 : Nat) (Option.some Jvm.ClassFile.FieldType.int)) ∈ zTB := zTB_of 862 (by decide +kernel) (by decide +kernel)
theorem mw_863 : (Jvm.Cond.methodLink "QueryStepsModel" (104 : Nat) ({ cls := "QueryStepsModel", name := "bad", desc := "(I)Z" } : Jvm.MethodName)) ∈ zTB := zTB_of 863 (by decide +kernel) (by decide +kernel)
theorem mw_865 : (Jvm.Cond.instanceMethod ({ cls := "QueryStepsModel", name := "bad", desc := "(I)Z" } : Jvm.MethodName)) ∈ zTB := zTB_of 865 (by decide +kernel) (by decide +kernel)
theorem mw_866 : (Jvm.Cond.code ({ cls := "QueryStepsModel", name := "bad", desc := "(I)Z" } : Jvm.MethodName) prog_13_method_12_code (2 : Nat) (Option.some Jvm.ClassFile.FieldType.boolean)) ∈ zTB := zTB_of 866 (by decide +kernel) (by decide +kernel)
theorem mw_867 : (Jvm.Cond.methodLink "QueryStepsModel" (147 : Nat) ({ cls := "QueryStepsModel", name := "leaf", desc := "()Z" } : Jvm.MethodName)) ∈ zTB := zTB_of 867 (by decide +kernel) (by decide +kernel)
theorem mw_869 : (Jvm.Cond.instanceMethod ({ cls := "QueryStepsModel", name := "leaf", desc := "()Z" } : Jvm.MethodName)) ∈ zTB := zTB_of 869 (by decide +kernel) (by decide +kernel)
theorem mw_870 : (Jvm.Cond.code ({ cls := "QueryStepsModel", name := "leaf", desc := "()Z" } : Jvm.MethodName) prog_13_method_20_code (4 : Nat) (Option.some Jvm.ClassFile.FieldType.boolean)) ∈ zTB := zTB_of 870 (by decide +kernel) (by decide +kernel)
theorem mw_871 : (Jvm.Cond.methodLink "QueryStepsModel" (127 : Nat) ({ cls := "QueryStepsModel", name := "name", desc := "()I" } : Jvm.MethodName)) ∈ zTB := zTB_of 871 (by decide +kernel) (by decide +kernel)
theorem mw_873 : (Jvm.Cond.instanceMethod ({ cls := "QueryStepsModel", name := "name", desc := "()I" } : Jvm.MethodName)) ∈ zTB := zTB_of 873 (by decide +kernel) (by decide +kernel)
theorem mw_874 : (Jvm.Cond.code ({ cls := "QueryStepsModel", name := "name", desc := "()I" } : Jvm.MethodName) prog_13_method_16_code (4 : Nat) (Option.some Jvm.ClassFile.FieldType.int)) ∈ zTB := zTB_of 874 (by decide +kernel) (by decide +kernel)
theorem mw_875 : (Jvm.Cond.methodLink "QueryStepsModel" (130 : Nat) ({ cls := "QueryStepsModel", name := "count", desc := "()I" } : Jvm.MethodName)) ∈ zTB := zTB_of 875 (by decide +kernel) (by decide +kernel)
theorem mw_877 : (Jvm.Cond.instanceMethod ({ cls := "QueryStepsModel", name := "count", desc := "()I" } : Jvm.MethodName)) ∈ zTB := zTB_of 877 (by decide +kernel) (by decide +kernel)
theorem mw_878 : (Jvm.Cond.code ({ cls := "QueryStepsModel", name := "count", desc := "()I" } : Jvm.MethodName) prog_13_method_21_code (3 : Nat) (Option.some Jvm.ClassFile.FieldType.int)) ∈ zTB := zTB_of 878 (by decide +kernel) (by decide +kernel)
theorem mw_879 : (Jvm.Cond.methodLink "QueryStepsModel" (107 : Nat) ({ cls := "QueryStepsModel", name := "must", desc := "(I)Z" } : Jvm.MethodName)) ∈ zTB := zTB_of 879 (by decide +kernel) (by decide +kernel)
theorem mw_881 : (Jvm.Cond.instanceMethod ({ cls := "QueryStepsModel", name := "must", desc := "(I)Z" } : Jvm.MethodName)) ∈ zTB := zTB_of 881 (by decide +kernel) (by decide +kernel)
theorem mw_882 : (Jvm.Cond.code ({ cls := "QueryStepsModel", name := "must", desc := "(I)Z" } : Jvm.MethodName) prog_13_method_13_code (2 : Nat) (Option.some Jvm.ClassFile.FieldType.boolean)) ∈ zTB := zTB_of 882 (by decide +kernel) (by decide +kernel)
theorem mw_883 : (Jvm.Cond.methodLink "QueryStepsModel" (123 : Nat) ({ cls := "QueryStepsModel", name := "value", desc := "()I" } : Jvm.MethodName)) ∈ zTB := zTB_of 883 (by decide +kernel) (by decide +kernel)
theorem mw_885 : (Jvm.Cond.instanceMethod ({ cls := "QueryStepsModel", name := "value", desc := "()I" } : Jvm.MethodName)) ∈ zTB := zTB_of 885 (by decide +kernel) (by decide +kernel)
theorem mw_886 : (Jvm.Cond.code ({ cls := "QueryStepsModel", name := "value", desc := "()I" } : Jvm.MethodName) prog_13_method_15_code (3 : Nat) (Option.some Jvm.ClassFile.FieldType.int)) ∈ zTB := zTB_of 886 (by decide +kernel) (by decide +kernel)
theorem mw_887 : (Jvm.Cond.methodLink "QueryStepsModel" (110 : Nat) ({ cls := "QueryStepsModel", name := "isDigit", desc := "(I)Z" } : Jvm.MethodName)) ∈ zTB := zTB_of 887 (by decide +kernel) (by decide +kernel)
theorem mw_888 : (Jvm.Cond.static ({ cls := "QueryStepsModel", name := "isDigit", desc := "(I)Z" } : Jvm.MethodName)) ∈ zTB := zTB_of 888 (by decide +kernel) (by decide +kernel)
theorem mw_889 : (Jvm.Cond.code ({ cls := "QueryStepsModel", name := "isDigit", desc := "(I)Z" } : Jvm.MethodName) prog_13_method_6_code (1 : Nat) (Option.some Jvm.ClassFile.FieldType.boolean)) ∈ zTB := zTB_of 889 (by decide +kernel) (by decide +kernel)
theorem mw_890 : (Jvm.Cond.methodLink "QueryStepsModel" (133 : Nat) ({ cls := "QueryStepsModel", name := "range", desc := "(II)Z" } : Jvm.MethodName)) ∈ zTB := zTB_of 890 (by decide +kernel) (by decide +kernel)
theorem mw_892 : (Jvm.Cond.instanceMethod ({ cls := "QueryStepsModel", name := "range", desc := "(II)Z" } : Jvm.MethodName)) ∈ zTB := zTB_of 892 (by decide +kernel) (by decide +kernel)
theorem mw_893 : (Jvm.Cond.code ({ cls := "QueryStepsModel", name := "range", desc := "(II)Z" } : Jvm.MethodName) prog_13_method_19_code (5 : Nat) (Option.some Jvm.ClassFile.FieldType.boolean)) ∈ zTB := zTB_of 893 (by decide +kernel) (by decide +kernel)
theorem mw_894 : (Jvm.Cond.methodLink "QueryStepsModel" (119 : Nat) ({ cls := "QueryStepsModel", name := "add", desc := "(IIII)V" } : Jvm.MethodName)) ∈ zTB := zTB_of 894 (by decide +kernel) (by decide +kernel)
theorem mw_896 : (Jvm.Cond.instanceMethod ({ cls := "QueryStepsModel", name := "add", desc := "(IIII)V" } : Jvm.MethodName)) ∈ zTB := zTB_of 896 (by decide +kernel) (by decide +kernel)
theorem mw_897 : (Jvm.Cond.code ({ cls := "QueryStepsModel", name := "add", desc := "(IIII)V" } : Jvm.MethodName) prog_13_method_17_code (6 : Nat) (Option.none : Option Jvm.ClassFile.FieldType)) ∈ zTB := zTB_of 897 (by decide +kernel) (by decide +kernel)
theorem mw_898 : (Jvm.Cond.methodLink "QueryStepsModel" (151 : Nat) ({ cls := "QueryStepsModel", name := "settle", desc := "(I)V" } : Jvm.MethodName)) ∈ zTB := zTB_of 898 (by decide +kernel) (by decide +kernel)
theorem mw_900 : (Jvm.Cond.instanceMethod ({ cls := "QueryStepsModel", name := "settle", desc := "(I)V" } : Jvm.MethodName)) ∈ zTB := zTB_of 900 (by decide +kernel) (by decide +kernel)
theorem mw_901 : (Jvm.Cond.code ({ cls := "QueryStepsModel", name := "settle", desc := "(I)V" } : Jvm.MethodName) prog_13_method_23_code (2 : Nat) (Option.none : Option Jvm.ClassFile.FieldType)) ∈ zTB := zTB_of 901 (by decide +kernel) (by decide +kernel)
theorem mw_902 : (Jvm.Cond.methodLink "QueryStepsModel" (140 : Nat) ({ cls := "QueryStepsModel", name := "join", desc := "(I)V" } : Jvm.MethodName)) ∈ zTB := zTB_of 902 (by decide +kernel) (by decide +kernel)
theorem mw_904 : (Jvm.Cond.instanceMethod ({ cls := "QueryStepsModel", name := "join", desc := "(I)V" } : Jvm.MethodName)) ∈ zTB := zTB_of 904 (by decide +kernel) (by decide +kernel)
theorem mw_905 : (Jvm.Cond.code ({ cls := "QueryStepsModel", name := "join", desc := "(I)V" } : Jvm.MethodName) prog_13_method_18_code (4 : Nat) (Option.none : Option Jvm.ClassFile.FieldType)) ∈ zTB := zTB_of 905 (by decide +kernel) (by decide +kernel)
theorem mw_906 : (Jvm.Cond.methodLink "QueryStepsModel" (166 : Nat) ({ cls := "QueryStepsModel", name := "second", desc := "()Z" } : Jvm.MethodName)) ∈ zTB := zTB_of 906 (by decide +kernel) (by decide +kernel)
theorem mw_908 : (Jvm.Cond.instanceMethod ({ cls := "QueryStepsModel", name := "second", desc := "()Z" } : Jvm.MethodName)) ∈ zTB := zTB_of 908 (by decide +kernel) (by decide +kernel)
theorem mw_909 : (Jvm.Cond.code ({ cls := "QueryStepsModel", name := "second", desc := "()Z" } : Jvm.MethodName) prog_13_method_26_code (4 : Nat) (Option.some Jvm.ClassFile.FieldType.boolean)) ∈ zTB := zTB_of 909 (by decide +kernel) (by decide +kernel)
theorem mw_910 : (Jvm.Cond.methodLink "QueryStepsModel" (154 : Nat) ({ cls := "QueryStepsModel", name := "count2", desc := "()I" } : Jvm.MethodName)) ∈ zTB := zTB_of 910 (by decide +kernel) (by decide +kernel)
theorem mw_912 : (Jvm.Cond.instanceMethod ({ cls := "QueryStepsModel", name := "count2", desc := "()I" } : Jvm.MethodName)) ∈ zTB := zTB_of 912 (by decide +kernel) (by decide +kernel)
theorem mw_913 : (Jvm.Cond.code ({ cls := "QueryStepsModel", name := "count2", desc := "()I" } : Jvm.MethodName) prog_13_method_27_code (1 : Nat) (Option.some Jvm.ClassFile.FieldType.int)) ∈ zTB := zTB_of 913 (by decide +kernel) (by decide +kernel)
theorem mw_914 : (Jvm.Cond.methodLink "QueryStepsModel" (157 : Nat) ({ cls := "QueryStepsModel", name := "must2", desc := "(II)Z" } : Jvm.MethodName)) ∈ zTB := zTB_of 914 (by decide +kernel) (by decide +kernel)
theorem mw_916 : (Jvm.Cond.instanceMethod ({ cls := "QueryStepsModel", name := "must2", desc := "(II)Z" } : Jvm.MethodName)) ∈ zTB := zTB_of 916 (by decide +kernel) (by decide +kernel)
theorem mw_917 : (Jvm.Cond.code ({ cls := "QueryStepsModel", name := "must2", desc := "(II)Z" } : Jvm.MethodName) prog_13_method_14_code (3 : Nat) (Option.some Jvm.ClassFile.FieldType.boolean)) ∈ zTB := zTB_of 917 (by decide +kernel) (by decide +kernel)
theorem mw_918 : (Jvm.Cond.methodLink "QueryStepsModel" (160 : Nat) ({ cls := "QueryStepsModel", name := "named2", desc := "()Z" } : Jvm.MethodName)) ∈ zTB := zTB_of 918 (by decide +kernel) (by decide +kernel)
theorem mw_920 : (Jvm.Cond.instanceMethod ({ cls := "QueryStepsModel", name := "named2", desc := "()Z" } : Jvm.MethodName)) ∈ zTB := zTB_of 920 (by decide +kernel) (by decide +kernel)
theorem mw_921 : (Jvm.Cond.code ({ cls := "QueryStepsModel", name := "named2", desc := "()Z" } : Jvm.MethodName) prog_13_method_25_code (3 : Nat) (Option.some Jvm.ClassFile.FieldType.boolean)) ∈ zTB := zTB_of 921 (by decide +kernel) (by decide +kernel)
theorem mw_922 : (Jvm.Cond.methodLink "QueryStepsModel" (169 : Nat) ({ cls := "QueryStepsModel", name := "lay", desc := "()V" } : Jvm.MethodName)) ∈ zTB := zTB_of 922 (by decide +kernel) (by decide +kernel)
theorem mw_924 : (Jvm.Cond.instanceMethod ({ cls := "QueryStepsModel", name := "lay", desc := "()V" } : Jvm.MethodName)) ∈ zTB := zTB_of 924 (by decide +kernel) (by decide +kernel)
theorem mw_925 : (Jvm.Cond.code ({ cls := "QueryStepsModel", name := "lay", desc := "()V" } : Jvm.MethodName) prog_13_method_28_code (4 : Nat) (Option.none : Option Jvm.ClassFile.FieldType)) ∈ zTB := zTB_of 925 (by decide +kernel) (by decide +kernel)
theorem mw_926 : (Jvm.Cond.methodLink "QueryStepsLaw" (37 : Nat) ({ cls := "QueryStepsModel", name := "node", desc := "(II)I" } : Jvm.MethodName)) ∈ zTB := zTB_of 926 (by decide +kernel) (by decide +kernel)
theorem mw_927 : (Jvm.Cond.instanceMethod ({ cls := "QueryStepsModel", name := "node", desc := "(II)I" } : Jvm.MethodName)) ∈ zTB := zTB_of 927 (by decide +kernel) (by decide +kernel)
theorem mw_928 : (Jvm.Cond.selects "QueryStepsModel" ({ cls := "QueryStepsModel", name := "node", desc := "(II)I" } : Jvm.MethodName) ({ cls := "QueryStepsModel", name := "node", desc := "(II)I" } : Jvm.MethodName)) ∈ zTB := zTB_of 928 (by decide +kernel) (by decide +kernel)
theorem mw_929 : (Jvm.Cond.code ({ cls := "QueryStepsModel", name := "node", desc := "(II)I" } : Jvm.MethodName) prog_13_method_30_code (3 : Nat) (Option.some Jvm.ClassFile.FieldType.int)) ∈ zTB := zTB_of 929 (by decide +kernel) (by decide +kernel)
theorem mw_930 : (Jvm.Cond.methodLink "QueryStepsLaw" (41 : Nat) ({ cls := "QueryStepsModel", name := "near", desc := "()I" } : Jvm.MethodName)) ∈ zTB := zTB_of 930 (by decide +kernel) (by decide +kernel)
theorem mw_931 : (Jvm.Cond.instanceMethod ({ cls := "QueryStepsModel", name := "near", desc := "()I" } : Jvm.MethodName)) ∈ zTB := zTB_of 931 (by decide +kernel) (by decide +kernel)
theorem mw_932 : (Jvm.Cond.selects "QueryStepsModel" ({ cls := "QueryStepsModel", name := "near", desc := "()I" } : Jvm.MethodName) ({ cls := "QueryStepsModel", name := "near", desc := "()I" } : Jvm.MethodName)) ∈ zTB := zTB_of 932 (by decide +kernel) (by decide +kernel)
theorem mw_933 : (Jvm.Cond.code ({ cls := "QueryStepsModel", name := "near", desc := "()I" } : Jvm.MethodName) prog_13_method_32_code (5 : Nat) (Option.some Jvm.ClassFile.FieldType.int)) ∈ zTB := zTB_of 933 (by decide +kernel) (by decide +kernel)
theorem mw_934 : (Jvm.Cond.methodLink "QueryStepsModel" (172 : Nat) ({ cls := "QueryStepsModel", name := "distance", desc := "(I)I" } : Jvm.MethodName)) ∈ zTB := zTB_of 934 (by decide +kernel) (by decide +kernel)
theorem mw_936 : (Jvm.Cond.instanceMethod ({ cls := "QueryStepsModel", name := "distance", desc := "(I)I" } : Jvm.MethodName)) ∈ zTB := zTB_of 936 (by decide +kernel) (by decide +kernel)
theorem mw_937 : (Jvm.Cond.code ({ cls := "QueryStepsModel", name := "distance", desc := "(I)I" } : Jvm.MethodName) prog_13_method_31_code (7 : Nat) (Option.some Jvm.ClassFile.FieldType.int)) ∈ zTB := zTB_of 937 (by decide +kernel) (by decide +kernel)
theorem mw_938 : (Jvm.Cond.methodLink "QueryStepsLaw" (48 : Nat) ({ cls := "QueryStepsModel", name := "record", desc := "(J)I" } : Jvm.MethodName)) ∈ zTB := zTB_of 938 (by decide +kernel) (by decide +kernel)
theorem mw_939 : (Jvm.Cond.instanceMethod ({ cls := "QueryStepsModel", name := "record", desc := "(J)I" } : Jvm.MethodName)) ∈ zTB := zTB_of 939 (by decide +kernel) (by decide +kernel)
theorem mw_940 : (Jvm.Cond.selects "QueryStepsModel" ({ cls := "QueryStepsModel", name := "record", desc := "(J)I" } : Jvm.MethodName) ({ cls := "QueryStepsModel", name := "record", desc := "(J)I" } : Jvm.MethodName)) ∈ zTB := zTB_of 940 (by decide +kernel) (by decide +kernel)
theorem mw_941 : (Jvm.Cond.code ({ cls := "QueryStepsModel", name := "record", desc := "(J)I" } : Jvm.MethodName) prog_13_method_33_code (3 : Nat) (Option.some Jvm.ClassFile.FieldType.int)) ∈ zTB := zTB_of 941 (by decide +kernel) (by decide +kernel)
theorem mw_942 : (Jvm.Cond.methodLink "QueryStepsLaw" (53 : Nat) ({ cls := "QueryStepsModel", name := "entry", desc := "(III)I" } : Jvm.MethodName)) ∈ zTB := zTB_of 942 (by decide +kernel) (by decide +kernel)
theorem mw_943 : (Jvm.Cond.instanceMethod ({ cls := "QueryStepsModel", name := "entry", desc := "(III)I" } : Jvm.MethodName)) ∈ zTB := zTB_of 943 (by decide +kernel) (by decide +kernel)
theorem mw_944 : (Jvm.Cond.selects "QueryStepsModel" ({ cls := "QueryStepsModel", name := "entry", desc := "(III)I" } : Jvm.MethodName) ({ cls := "QueryStepsModel", name := "entry", desc := "(III)I" } : Jvm.MethodName)) ∈ zTB := zTB_of 944 (by decide +kernel) (by decide +kernel)
theorem mw_945 : (Jvm.Cond.code ({ cls := "QueryStepsModel", name := "entry", desc := "(III)I" } : Jvm.MethodName) prog_13_method_34_code (5 : Nat) (Option.some Jvm.ClassFile.FieldType.int)) ∈ zTB := zTB_of 945 (by decide +kernel) (by decide +kernel)
theorem mw_946 : (Jvm.Cond.constant "QueryStepsModel" (178 : Nat) (99999 : Int32)) ∈ zTB := zTB_of 946 (by decide +kernel) (by decide +kernel)
theorem mw_947 : (Jvm.Cond.methodLink "QueryStepsLaw" (57 : Nat) ({ cls := "QueryStepsModel", name := "save", desc := "(I)I" } : Jvm.MethodName)) ∈ zTB := zTB_of 947 (by decide +kernel) (by decide +kernel)
theorem mw_948 : (Jvm.Cond.instanceMethod ({ cls := "QueryStepsModel", name := "save", desc := "(I)I" } : Jvm.MethodName)) ∈ zTB := zTB_of 948 (by decide +kernel) (by decide +kernel)
theorem mw_949 : (Jvm.Cond.selects "QueryStepsModel" ({ cls := "QueryStepsModel", name := "save", desc := "(I)I" } : Jvm.MethodName) ({ cls := "QueryStepsModel", name := "save", desc := "(I)I" } : Jvm.MethodName)) ∈ zTB := zTB_of 949 (by decide +kernel) (by decide +kernel)
theorem mw_950 : (Jvm.Cond.code ({ cls := "QueryStepsModel", name := "save", desc := "(I)I" } : Jvm.MethodName) prog_13_method_40_code (3 : Nat) (Option.some Jvm.ClassFile.FieldType.int)) ∈ zTB := zTB_of 950 (by decide +kernel) (by decide +kernel)
theorem mw_951 : (Jvm.Cond.methodLink "QueryStepsLaw" (61 : Nat) ({ cls := "QueryStepsModel", name := "run", desc := "(I)I" } : Jvm.MethodName)) ∈ zTB := zTB_of 951 (by decide +kernel) (by decide +kernel)
theorem mw_952 : (Jvm.Cond.instanceMethod ({ cls := "QueryStepsModel", name := "run", desc := "(I)I" } : Jvm.MethodName)) ∈ zTB := zTB_of 952 (by decide +kernel) (by decide +kernel)
theorem mw_953 : (Jvm.Cond.selects "QueryStepsModel" ({ cls := "QueryStepsModel", name := "run", desc := "(I)I" } : Jvm.MethodName) ({ cls := "QueryStepsModel", name := "run", desc := "(I)I" } : Jvm.MethodName)) ∈ zTB := zTB_of 953 (by decide +kernel) (by decide +kernel)
theorem mw_954 : (Jvm.Cond.code ({ cls := "QueryStepsModel", name := "run", desc := "(I)I" } : Jvm.MethodName) prog_13_method_42_code (2 : Nat) (Option.some Jvm.ClassFile.FieldType.int)) ∈ zTB := zTB_of 954 (by decide +kernel) (by decide +kernel)
theorem mw_955 : (Jvm.Cond.methodLink "QueryStepsModel" (191 : Nat) ({ cls := "QueryStepsModel", name := "isSaved", desc := "(I)Z" } : Jvm.MethodName)) ∈ zTB := zTB_of 955 (by decide +kernel) (by decide +kernel)
theorem mw_957 : (Jvm.Cond.instanceMethod ({ cls := "QueryStepsModel", name := "isSaved", desc := "(I)Z" } : Jvm.MethodName)) ∈ zTB := zTB_of 957 (by decide +kernel) (by decide +kernel)
theorem mw_958 : (Jvm.Cond.code ({ cls := "QueryStepsModel", name := "isSaved", desc := "(I)Z" } : Jvm.MethodName) prog_13_method_38_code (2 : Nat) (Option.some Jvm.ClassFile.FieldType.boolean)) ∈ zTB := zTB_of 958 (by decide +kernel) (by decide +kernel)
theorem mw_959 : (Jvm.Cond.methodLink "QueryStepsModel" (194 : Nat) ({ cls := "QueryStepsModel", name := "isBroken", desc := "(I)Z" } : Jvm.MethodName)) ∈ zTB := zTB_of 959 (by decide +kernel) (by decide +kernel)
theorem mw_961 : (Jvm.Cond.instanceMethod ({ cls := "QueryStepsModel", name := "isBroken", desc := "(I)Z" } : Jvm.MethodName)) ∈ zTB := zTB_of 961 (by decide +kernel) (by decide +kernel)
theorem mw_962 : (Jvm.Cond.code ({ cls := "QueryStepsModel", name := "isBroken", desc := "(I)Z" } : Jvm.MethodName) prog_13_method_39_code (5 : Nat) (Option.some Jvm.ClassFile.FieldType.boolean)) ∈ zTB := zTB_of 962 (by decide +kernel) (by decide +kernel)
theorem mw_963 : (Jvm.Cond.methodLink "QueryStepsModel" (197 : Nat) ({ cls := "QueryStepsModel", name := "finds", desc := "(IZ)I" } : Jvm.MethodName)) ∈ zTB := zTB_of 963 (by decide +kernel) (by decide +kernel)
theorem mw_965 : (Jvm.Cond.instanceMethod ({ cls := "QueryStepsModel", name := "finds", desc := "(IZ)I" } : Jvm.MethodName)) ∈ zTB := zTB_of 965 (by decide +kernel) (by decide +kernel)
theorem mw_966 : (Jvm.Cond.code ({ cls := "QueryStepsModel", name := "finds", desc := "(IZ)I" } : Jvm.MethodName) prog_13_method_41_code (6 : Nat) (Option.some Jvm.ClassFile.FieldType.int)) ∈ zTB := zTB_of 966 (by decide +kernel) (by decide +kernel)
theorem mw_967 : (Jvm.Cond.methodLink "QueryStepsModel" (188 : Nat) ({ cls := "QueryStepsModel", name := "meetsAll", desc := "(II)Z" } : Jvm.MethodName)) ∈ zTB := zTB_of 967 (by decide +kernel) (by decide +kernel)
theorem mw_969 : (Jvm.Cond.instanceMethod ({ cls := "QueryStepsModel", name := "meetsAll", desc := "(II)Z" } : Jvm.MethodName)) ∈ zTB := zTB_of 969 (by decide +kernel) (by decide +kernel)
theorem mw_970 : (Jvm.Cond.code ({ cls := "QueryStepsModel", name := "meetsAll", desc := "(II)Z" } : Jvm.MethodName) prog_13_method_37_code (9 : Nat) (Option.some Jvm.ClassFile.FieldType.boolean)) ∈ zTB := zTB_of 970 (by decide +kernel) (by decide +kernel)
theorem mw_971 : (Jvm.Cond.methodLink "QueryStepsModel" (182 : Nat) ({ cls := "QueryStepsModel", name := "has", desc := "(II)Z" } : Jvm.MethodName)) ∈ zTB := zTB_of 971 (by decide +kernel) (by decide +kernel)
theorem mw_973 : (Jvm.Cond.instanceMethod ({ cls := "QueryStepsModel", name := "has", desc := "(II)Z" } : Jvm.MethodName)) ∈ zTB := zTB_of 973 (by decide +kernel) (by decide +kernel)
theorem mw_974 : (Jvm.Cond.code ({ cls := "QueryStepsModel", name := "has", desc := "(II)Z" } : Jvm.MethodName) prog_13_method_36_code (8 : Nat) (Option.some Jvm.ClassFile.FieldType.boolean)) ∈ zTB := zTB_of 974 (by decide +kernel) (by decide +kernel)
theorem mw_975 : (Jvm.Cond.methodLink "QueryStepsModel" (179 : Nat) ({ cls := "QueryStepsModel", name := "beginsWith", desc := "(II)Z" } : Jvm.MethodName)) ∈ zTB := zTB_of 975 (by decide +kernel) (by decide +kernel)
theorem mw_976 : (Jvm.Cond.static ({ cls := "QueryStepsModel", name := "beginsWith", desc := "(II)Z" } : Jvm.MethodName)) ∈ zTB := zTB_of 976 (by decide +kernel) (by decide +kernel)
theorem mw_977 : (Jvm.Cond.code ({ cls := "QueryStepsModel", name := "beginsWith", desc := "(II)Z" } : Jvm.MethodName) prog_13_method_35_code (3 : Nat) (Option.some Jvm.ClassFile.FieldType.boolean)) ∈ zTB := zTB_of 977 (by decide +kernel) (by decide +kernel)
theorem mw_978 : (Jvm.Cond.methodLink "QueryStepsLaw" (65 : Nat) ({ cls := "QueryStepsModel", name := "alert", desc := "(I)I" } : Jvm.MethodName)) ∈ zTB := zTB_of 978 (by decide +kernel) (by decide +kernel)
theorem mw_979 : (Jvm.Cond.instanceMethod ({ cls := "QueryStepsModel", name := "alert", desc := "(I)I" } : Jvm.MethodName)) ∈ zTB := zTB_of 979 (by decide +kernel) (by decide +kernel)
theorem mw_980 : (Jvm.Cond.selects "QueryStepsModel" ({ cls := "QueryStepsModel", name := "alert", desc := "(I)I" } : Jvm.MethodName) ({ cls := "QueryStepsModel", name := "alert", desc := "(I)I" } : Jvm.MethodName)) ∈ zTB := zTB_of 980 (by decide +kernel) (by decide +kernel)
theorem mw_981 : (Jvm.Cond.code ({ cls := "QueryStepsModel", name := "alert", desc := "(I)I" } : Jvm.MethodName) prog_13_method_43_code (3 : Nat) (Option.some Jvm.ClassFile.FieldType.int)) ∈ zTB := zTB_of 981 (by decide +kernel) (by decide +kernel)
theorem mw_982 : (Jvm.Cond.methodLink "QueryStepsLaw" (69 : Nat) ({ cls := "QueryStepsModel", name := "at", desc := "(I)I" } : Jvm.MethodName)) ∈ zTB := zTB_of 982 (by decide +kernel) (by decide +kernel)
theorem mw_983 : (Jvm.Cond.instanceMethod ({ cls := "QueryStepsModel", name := "at", desc := "(I)I" } : Jvm.MethodName)) ∈ zTB := zTB_of 983 (by decide +kernel) (by decide +kernel)
theorem mw_984 : (Jvm.Cond.selects "QueryStepsModel" ({ cls := "QueryStepsModel", name := "at", desc := "(I)I" } : Jvm.MethodName) ({ cls := "QueryStepsModel", name := "at", desc := "(I)I" } : Jvm.MethodName)) ∈ zTB := zTB_of 984 (by decide +kernel) (by decide +kernel)
theorem mw_985 : (Jvm.Cond.code ({ cls := "QueryStepsModel", name := "at", desc := "(I)I" } : Jvm.MethodName) prog_13_method_44_code (2 : Nat) (Option.some Jvm.ClassFile.FieldType.int)) ∈ zTB := zTB_of 985 (by decide +kernel) (by decide +kernel)
theorem mw_986 : (Jvm.Cond.methodLink "QueryStepsLaw" (74 : Nat) ({ cls := "QueryStepsModel", name := "same", desc := "(II)Z" } : Jvm.MethodName)) ∈ zTB := zTB_of 986 (by decide +kernel) (by decide +kernel)
theorem mw_987 : (Jvm.Cond.instanceMethod ({ cls := "QueryStepsModel", name := "same", desc := "(II)Z" } : Jvm.MethodName)) ∈ zTB := zTB_of 987 (by decide +kernel) (by decide +kernel)
theorem mw_988 : (Jvm.Cond.selects "QueryStepsModel" ({ cls := "QueryStepsModel", name := "same", desc := "(II)Z" } : Jvm.MethodName) ({ cls := "QueryStepsModel", name := "same", desc := "(II)Z" } : Jvm.MethodName)) ∈ zTB := zTB_of 988 (by decide +kernel) (by decide +kernel)
theorem mw_989 : (Jvm.Cond.code ({ cls := "QueryStepsModel", name := "same", desc := "(II)Z" } : Jvm.MethodName) prog_13_method_45_code (5 : Nat) (Option.some Jvm.ClassFile.FieldType.boolean)) ∈ zTB := zTB_of 989 (by decide +kernel) (by decide +kernel)
theorem mw_990 : (Jvm.Cond.methodLink "QueryStepsLaw" (78 : Nat) ({ cls := "QueryStepsModel", name := "broken", desc := "()I" } : Jvm.MethodName)) ∈ zTB := zTB_of 990 (by decide +kernel) (by decide +kernel)
theorem mw_991 : (Jvm.Cond.instanceMethod ({ cls := "QueryStepsModel", name := "broken", desc := "()I" } : Jvm.MethodName)) ∈ zTB := zTB_of 991 (by decide +kernel) (by decide +kernel)
theorem mw_992 : (Jvm.Cond.selects "QueryStepsModel" ({ cls := "QueryStepsModel", name := "broken", desc := "()I" } : Jvm.MethodName) ({ cls := "QueryStepsModel", name := "broken", desc := "()I" } : Jvm.MethodName)) ∈ zTB := zTB_of 992 (by decide +kernel) (by decide +kernel)
theorem mw_993 : (Jvm.Cond.code ({ cls := "QueryStepsModel", name := "broken", desc := "()I" } : Jvm.MethodName) prog_13_method_46_code (3 : Nat) (Option.some Jvm.ClassFile.FieldType.int)) ∈ zTB := zTB_of 993 (by decide +kernel) (by decide +kernel)
theorem mw_994 : (Jvm.Cond.constantLong "QueryStepsLaw" (42 : Nat) (4294967295 : Int64)) ∈ zTB := zTB_of 994 (by decide +kernel) (by decide +kernel)
theorem mw_995 : (Jvm.Cond.selects "QuerySteps$BetweenReader" ({ cls := "QuerySteps$BetweenReader", name := "takesTree", desc := "(I)Z" } : Jvm.MethodName) ({ cls := "QuerySteps$BetweenReader", name := "takesTree", desc := "(I)Z" } : Jvm.MethodName)) ∈ zTB := zTB_of 995 (by decide +kernel) (by decide +kernel)
theorem mw_996 : (Jvm.Cond.selects "QuerySteps$FrontReader" ({ cls := "QuerySteps$FrontReader", name := "takesTree", desc := "(I)Z" } : Jvm.MethodName) ({ cls := "QuerySteps$FrontReader", name := "takesTree", desc := "(I)Z" } : Jvm.MethodName)) ∈ zTB := zTB_of 996 (by decide +kernel) (by decide +kernel)
theorem mw_997 : (Jvm.Cond.fieldLink "java/lang/String" (9 : Nat) "java/lang/String" "value" "[B") ∈ zTB := zTB_of 997 (by decide +kernel) (by decide +kernel)
theorem mw_998 : (Jvm.Cond.fieldLink "java/lang/String" (15 : Nat) "java/lang/String" "coder" "B") ∈ zTB := zTB_of 998 (by decide +kernel) (by decide +kernel)
set_option maxRecDepth 20000 in
theorem hi_Bt : ∀ w ∈ u_ws R_Bt T_Bt 4, w ∈ zTB := fun w hw => (by
  have h : u_ws R_Bt T_Bt 4 = [168, 170, 172, 174].filterMap (fun i => lw_tbl[i]?) := by decide +kernel
  have hg : (u_ws R_Bt T_Bt 4).all goodWord = true := by decide +kernel
  have h1 := hw
  rw [h] at h1
  obtain ⟨i, -, hi⟩ := List.mem_filterMap.mp h1
  exact List.mem_filter.mpr ⟨List.mem_of_getElem? hi, List.all_eq_true.mp hg w hw⟩)
set_option maxRecDepth 20000 in
theorem hi_Fr : ∀ w ∈ u_ws R_Fr T_Fr 4, w ∈ zTB := fun w hw => (by
  have h : u_ws R_Fr T_Fr 4 = [183, 184, 185, 186].filterMap (fun i => lw_tbl[i]?) := by decide +kernel
  have hg : (u_ws R_Fr T_Fr 4).all goodWord = true := by decide +kernel
  have h1 := hw
  rw [h] at h1
  obtain ⟨i, -, hi⟩ := List.mem_filterMap.mp h1
  exact List.mem_filter.mpr ⟨List.mem_of_getElem? hi, List.all_eq_true.mp hg w hw⟩)
set_option maxRecDepth 20000 in
theorem hi_Hi : ∀ w ∈ u_ws R_Hi T_Hi 2, w ∈ zTB := fun w hw => (by
  have h : u_ws R_Hi T_Hi 2 = [247, 249].filterMap (fun i => lw_tbl[i]?) := by decide +kernel
  have hg : (u_ws R_Hi T_Hi 2).all goodWord = true := by decide +kernel
  have h1 := hw
  rw [h] at h1
  obtain ⟨i, -, hi⟩ := List.mem_filterMap.mp h1
  exact List.mem_filter.mpr ⟨List.mem_of_getElem? hi, List.all_eq_true.mp hg w hw⟩)
set_option maxRecDepth 20000 in
theorem hi_Ix : ∀ w ∈ u_ws R_Ix T_Ix 5, w ∈ zTB := fun w hw => (by
  have h : u_ws R_Ix T_Ix 5 = [100, 102, 104, 106, 108].filterMap (fun i => lw_tbl[i]?) := by decide +kernel
  have hg : (u_ws R_Ix T_Ix 5).all goodWord = true := by decide +kernel
  have h1 := hw
  rw [h] at h1
  obtain ⟨i, -, hi⟩ := List.mem_filterMap.mp h1
  exact List.mem_filter.mpr ⟨List.mem_of_getElem? hi, List.all_eq_true.mp hg w hw⟩)
set_option maxRecDepth 20000 in
theorem hi_Qu : ∀ w ∈ u_ws R_Qu T_Qu 4, w ∈ zTB := fun w hw => (by
  have h : u_ws R_Qu T_Qu 4 = [230, 232, 234, 236].filterMap (fun i => lw_tbl[i]?) := by decide +kernel
  have hg : (u_ws R_Qu T_Qu 4).all goodWord = true := by decide +kernel
  have h1 := hw
  rw [h] at h1
  obtain ⟨i, -, hi⟩ := List.mem_filterMap.mp h1
  exact List.mem_filter.mpr ⟨List.mem_of_getElem? hi, List.all_eq_true.mp hg w hw⟩)
set_option maxRecDepth 20000 in
theorem hi_Rc : ∀ w ∈ u_ws R_Rc T_Rc 6, w ∈ zTB := fun w hw => (by
  have h : u_ws R_Rc T_Rc 6 = [200, 202, 204, 206, 208, 210].filterMap (fun i => lw_tbl[i]?) := by decide +kernel
  have hg : (u_ws R_Rc T_Rc 6).all goodWord = true := by decide +kernel
  have h1 := hw
  rw [h] at h1
  obtain ⟨i, -, hi⟩ := List.mem_filterMap.mp h1
  exact List.mem_filter.mpr ⟨List.mem_of_getElem? hi, List.all_eq_true.mp hg w hw⟩)
set_option maxRecDepth 20000 in
theorem hi_So : ∀ w ∈ u_ws R_So T_So 3, w ∈ zTB := fun w hw => (by
  have h : u_ws R_So T_So 3 = [81, 83, 85].filterMap (fun i => lw_tbl[i]?) := by decide +kernel
  have hg : (u_ws R_So T_So 3).all goodWord = true := by decide +kernel
  have h1 := hw
  rw [h] at h1
  obtain ⟨i, -, hi⟩ := List.mem_filterMap.mp h1
  exact List.mem_filter.mpr ⟨List.mem_of_getElem? hi, List.all_eq_true.mp hg w hw⟩)
set_option maxRecDepth 20000 in
theorem hi_Tr : ∀ w ∈ u_ws R_Tr T_Tr 5, w ∈ zTB := fun w hw => (by
  have h : u_ws R_Tr T_Tr 5 = [136, 138, 140, 142, 144].filterMap (fun i => lw_tbl[i]?) := by decide +kernel
  have hg : (u_ws R_Tr T_Tr 5).all goodWord = true := by decide +kernel
  have h1 := hw
  rw [h] at h1
  obtain ⟨i, -, hi⟩ := List.mem_filterMap.mp h1
  exact List.mem_filter.mpr ⟨List.mem_of_getElem? hi, List.all_eq_true.mp hg w hw⟩)
set_option maxRecDepth 20000 in
theorem hi_Un : ∀ w ∈ u_ws R_Un T_Un 2, w ∈ zTB := fun w hw => (by
  have h : u_ws R_Un T_Un 2 = [120, 122].filterMap (fun i => lw_tbl[i]?) := by decide +kernel
  have hg : (u_ws R_Un T_Un 2).all goodWord = true := by decide +kernel
  have h1 := hw
  rw [h] at h1
  obtain ⟨i, -, hi⟩ := List.mem_filterMap.mp h1
  exact List.mem_filter.mpr ⟨List.mem_of_getElem? hi, List.all_eq_true.mp hg w hw⟩)
set_option maxRecDepth 20000 in
theorem hi_QS : ∀ w ∈ u_ws R_QS T_QS 10, w ∈ zTB := fun w hw => (by
  have h : u_ws R_QS T_QS 10 = [262, 264, 266, 268, 270, 272, 274, 276, 278, 280].filterMap (fun i => lw_tbl[i]?) := by decide +kernel
  have hg : (u_ws R_QS T_QS 10).all goodWord = true := by decide +kernel
  have h1 := hw
  rw [h] at h1
  obtain ⟨i, -, hi⟩ := List.mem_filterMap.mp h1
  exact List.mem_filter.mpr ⟨List.mem_of_getElem? hi, List.all_eq_true.mp hg w hw⟩)
set_option maxRecDepth 20000 in
theorem hi_Mo : ∀ w ∈ u_ws R_Mo T_Mo 29, w ∈ zTB := fun w hw => (by
  have h : u_ws R_Mo T_Mo 29 = [761, 763, 765, 767, 769, 771, 773, 775, 777, 779, 781, 783, 785, 787, 789, 791, 793, 795, 797, 799, 801, 803, 805, 807, 809, 811, 813, 815, 817].filterMap (fun i => lw_tbl[i]?) := by decide +kernel
  have hg : (u_ws R_Mo T_Mo 29).all goodWord = true := by decide +kernel
  have h1 := hw
  rw [h] at h1
  obtain ⟨i, -, hi⟩ := List.mem_filterMap.mp h1
  exact List.mem_filter.mpr ⟨List.mem_of_getElem? hi, List.all_eq_true.mp hg w hw⟩)
end
section
theorem zv_Bt_takeJoint : zVir y_Bt_takeJoint R_Bt c_Bt_takeJoint 5 (some .int) 2 := ⟨mw_503, mw_8, mw_53, mw_504, rfl, by decide +kernel, by decide +kernel, by decide +kernel⟩
theorem zv_Bt_takesTerm : zVir y_Bt_takesTerm R_Bt c_Bt_takesTerm 3 (some .boolean) 1 := ⟨mw_440, mw_4, mw_53, mw_441, rfl, by decide +kernel, by decide +kernel, by decide +kernel⟩
theorem zv_Bt_takesValues : zVir y_Bt_takesValues R_Bt c_Bt_takesValues 3 (some .boolean) 1 := ⟨mw_471, mw_5, mw_53, mw_472, rfl, by decide +kernel, by decide +kernel, by decide +kernel⟩
theorem zv_Fr_takesBranch : zVir y_Fr_takesBranch R_Fr c_Fr_takesBranch 2 (some .boolean) 1 := ⟨mw_555, mw_11, mw_54, mw_556, rfl, by decide +kernel, by decide +kernel, by decide +kernel⟩
theorem zv_Fr_takesLeaf : zVir y_Fr_takesLeaf R_Fr c_Fr_takesLeaf 5 (some .boolean) 1 := ⟨mw_539, mw_10, mw_54, mw_540, rfl, by decide +kernel, by decide +kernel, by decide +kernel⟩
theorem zv_Hi_gather : zVir y_Hi_gather R_Hi c_Hi_gather 6 (some .int) 3 := ⟨mw_653, mw_654, mw_57, mw_655, rfl, by decide +kernel, by decide +kernel, by decide +kernel⟩
theorem zv_Hi_insert : zVir y_Hi_insert R_Hi c_Hi_insert 4 none 2 := ⟨mw_690, mw_17, mw_57, mw_691, rfl, by decide +kernel, by decide +kernel, by decide +kernel⟩
theorem zv_Hi_numberAt : zVir y_Hi_numberAt R_Hi c_Hi_numberAt 2 (some .int) 1 := ⟨mw_707, mw_708, mw_57, mw_709, rfl, by decide +kernel, by decide +kernel, by decide +kernel⟩
theorem zv_Ix_changesTo : zVir y_Ix_changesTo R_Ix c_Ix_changesTo 8 (some .int) 2 := ⟨mw_590, mw_12, mw_49, mw_591, rfl, by decide +kernel, by decide +kernel, by decide +kernel⟩
theorem zv_Ix_find : zVir y_Ix_find R_Ix c_Ix_find 4 (some .int) 2 := ⟨mw_378, mw_379, mw_49, mw_380, rfl, by decide +kernel, by decide +kernel, by decide +kernel⟩
theorem zv_Ix_has : zVir y_Ix_has R_Ix c_Ix_has 2 (some .boolean) 1 := ⟨mw_394, mw_395, mw_49, mw_396, rfl, by decide +kernel, by decide +kernel, by decide +kernel⟩
theorem zv_Ix_isBroken : zVir y_Ix_isBroken R_Ix c_Ix_isBroken 4 (some .boolean) 1 := ⟨mw_647, mw_648, mw_49, mw_649, rfl, by decide +kernel, by decide +kernel, by decide +kernel⟩
theorem zv_Ix_isNameOf : zVir y_Ix_isNameOf R_Ix c_Ix_isNameOf 6 (some .boolean) 3 := ⟨mw_383, mw_1, mw_49, mw_384, rfl, by decide +kernel, by decide +kernel, by decide +kernel⟩
theorem zv_Ix_lengthOf : zVir y_Ix_lengthOf R_Ix c_Ix_lengthOf 2 (some .int) 1 := ⟨mw_391, mw_2, mw_49, mw_392, rfl, by decide +kernel, by decide +kernel, by decide +kernel⟩
theorem zv_Ix_letterOf : zVir y_Ix_letterOf R_Ix c_Ix_letterOf 3 (some .int) 2 := ⟨mw_399, mw_3, mw_49, mw_400, rfl, by decide +kernel, by decide +kernel, by decide +kernel⟩
theorem zv_Ix_nearest : zVir y_Ix_nearest R_Ix c_Ix_nearest 6 (some .int) 1 := ⟨mw_581, mw_582, mw_49, mw_583, rfl, by decide +kernel, by decide +kernel, by decide +kernel⟩
theorem zv_Ix_register : zVir y_Ix_register R_Ix c_Ix_register 5 (some .int) 1 := ⟨mw_296, mw_297, mw_49, mw_298, rfl, by decide +kernel, by decide +kernel, by decide +kernel⟩
theorem zv_Ix_turn : zVir y_Ix_turn R_Ix c_Ix_turn 4 (some .boolean) 2 := ⟨mw_412, mw_413, mw_49, mw_414, rfl, by decide +kernel, by decide +kernel, by decide +kernel⟩
theorem zv_Qu_isNew : zVir y_Qu_isNew R_Qu c_Qu_isNew 3 (some .boolean) 1 := ⟨mw_662, mw_663, mw_56, mw_664, rfl, by decide +kernel, by decide +kernel, by decide +kernel⟩
theorem zv_Qu_keep : zVir y_Qu_keep R_Qu c_Qu_keep 2 none 1 := ⟨mw_630, mw_631, mw_56, mw_632, rfl, by decide +kernel, by decide +kernel, by decide +kernel⟩
theorem zv_Qu_lookedUpTo : zVir y_Qu_lookedUpTo R_Qu c_Qu_lookedUpTo 3 none 1 := ⟨mw_699, mw_700, mw_56, mw_701, rfl, by decide +kernel, by decide +kernel, by decide +kernel⟩
theorem zv_Rc_add : zVir y_Rc_add R_Rc c_Rc_add 3 (some .int) 1 := ⟨mw_604, mw_605, mw_55, mw_606, rfl, by decide +kernel, by decide +kernel, by decide +kernel⟩
theorem zv_Rc_addEntry : zVir y_Rc_addEntry R_Rc c_Rc_addEntry 6 (some .int) 3 := ⟨mw_622, mw_623, mw_55, mw_624, rfl, by decide +kernel, by decide +kernel, by decide +kernel⟩
theorem zv_Rc_has : zVir y_Rc_has R_Rc c_Rc_has 2 (some .boolean) 1 := ⟨mw_613, mw_13, mw_55, mw_614, rfl, by decide +kernel, by decide +kernel, by decide +kernel⟩
theorem zs_Rc_isBeginning : zSta y_Rc_isBeginning c_Rc_isBeginning 4 (some .boolean) 2 := ⟨mw_683, mw_55, mw_684, by decide +kernel, by decide +kernel, by decide +kernel⟩
theorem zs_Rc_isJoinedMet : zSta y_Rc_isJoinedMet c_Rc_isJoinedMet 3 (some .boolean) 3 := ⟨mw_686, mw_55, mw_687, by decide +kernel, by decide +kernel, by decide +kernel⟩
theorem zv_Rc_isMet : zVir y_Rc_isMet R_Rc c_Rc_isMet 6 (some .boolean) 2 := ⟨mw_666, mw_667, mw_55, mw_668, rfl, by decide +kernel, by decide +kernel, by decide +kernel⟩
theorem zv_Rc_isSimpleMet : zVir y_Rc_isSimpleMet R_Rc c_Rc_isSimpleMet 7 (some .boolean) 3 := ⟨mw_673, mw_16, mw_55, mw_674, rfl, by decide +kernel, by decide +kernel, by decide +kernel⟩
theorem zs_Rc_isValueMet : zSta y_Rc_isValueMet c_Rc_isValueMet 4 (some .boolean) 3 := ⟨mw_678, mw_55, mw_679, by decide +kernel, by decide +kernel, by decide +kernel⟩
theorem zv_Rc_momentOf : zVir y_Rc_momentOf R_Rc c_Rc_momentOf 2 (some .long) 1 := ⟨mw_608, mw_609, mw_55, mw_610, rfl, by decide +kernel, by decide +kernel, by decide +kernel⟩
theorem zv_Rc_size : zVir y_Rc_size R_Rc c_Rc_size 1 (some .int) 0 := ⟨mw_657, mw_658, mw_55, mw_659, rfl, by decide +kernel, by decide +kernel, by decide +kernel⟩
theorem zv_So_clear : zVir y_So_clear R_So c_So_clear 1 none 0 := ⟨mw_403, mw_404, mw_48, mw_405, rfl, by decide +kernel, by decide +kernel, by decide +kernel⟩
theorem zv_So_collect : zVir y_So_collect R_So c_So_collect 2 none 1 := ⟨mw_288, mw_289, mw_48, mw_290, rfl, by decide +kernel, by decide +kernel, by decide +kernel⟩
theorem zv_So_isAtEnd : zVir y_So_isAtEnd R_So c_So_isAtEnd 1 (some .boolean) 0 := ⟨mw_559, mw_560, mw_48, mw_561, rfl, by decide +kernel, by decide +kernel, by decide +kernel⟩
theorem zs_So_isDigit : zSta y_So_isDigit c_So_isDigit 1 (some .boolean) 1 := ⟨mw_478, mw_48, mw_479, by decide +kernel, by decide +kernel, by decide +kernel⟩
theorem zs_So_isSmallLetter : zSta y_So_isSmallLetter c_So_isSmallLetter 1 (some .boolean) 1 := ⟨mw_316, mw_48, mw_317, by decide +kernel, by decide +kernel, by decide +kernel⟩
theorem zv_So_joiningSort : zVir y_So_joiningSort R_So c_So_joiningSort 2 (some .int) 1 := ⟨mw_319, mw_320, mw_48, mw_321, rfl, by decide +kernel, by decide +kernel, by decide +kernel⟩
theorem zv_So_length : zVir y_So_length R_So c_So_length 1 (some .int) 0 := ⟨mw_304, mw_305, mw_48, mw_306, rfl, by decide +kernel, by decide +kernel, by decide +kernel⟩
theorem zv_So_moveTo : zVir y_So_moveTo R_So c_So_moveTo 2 none 1 := ⟨mw_300, mw_301, mw_48, mw_302, rfl, by decide +kernel, by decide +kernel, by decide +kernel⟩
theorem zv_So_place : zVir y_So_place R_So c_So_place 1 (some .int) 0 := ⟨mw_386, mw_387, mw_48, mw_388, rfl, by decide +kernel, by decide +kernel, by decide +kernel⟩
theorem zv_So_rowEnd : zVir y_So_rowEnd R_So c_So_rowEnd 2 (some .int) 0 := ⟨mw_308, mw_309, mw_48, mw_310, rfl, by decide +kernel, by decide +kernel, by decide +kernel⟩
theorem zv_So_signAt : zVir y_So_signAt R_So c_So_signAt 2 (some .int) 1 := ⟨mw_312, mw_313, mw_48, mw_314, rfl, by decide +kernel, by decide +kernel, by decide +kernel⟩
theorem zv_So_spells : zVir y_So_spells R_So c_So_spells 4 (some .boolean) 2 := ⟨mw_325, mw_0, mw_48, mw_326, rfl, by decide +kernel, by decide +kernel, by decide +kernel⟩
theorem zv_So_take : zVir y_So_take R_So c_So_take 2 (some .boolean) 1 := ⟨mw_445, mw_446, mw_48, mw_447, rfl, by decide +kernel, by decide +kernel, by decide +kernel⟩
theorem zv_So_takeValue : zVir y_So_takeValue R_So c_So_takeValue 3 (some .int) 0 := ⟨mw_474, mw_475, mw_48, mw_476, rfl, by decide +kernel, by decide +kernel, by decide +kernel⟩
theorem zv_Tr_append : zVir y_Tr_append R_Tr c_Tr_append 5 (some .boolean) 4 := ⟨mw_481, mw_482, mw_51, mw_483, rfl, by decide +kernel, by decide +kernel, by decide +kernel⟩
theorem zv_Tr_clear : zVir y_Tr_clear R_Tr c_Tr_clear 1 none 0 := ⟨mw_424, mw_425, mw_51, mw_426, rfl, by decide +kernel, by decide +kernel, by decide +kernel⟩
theorem zv_Tr_copyFrom : zVir y_Tr_copyFrom R_Tr c_Tr_copyFrom 3 none 1 := ⟨mw_564, mw_565, mw_51, mw_566, rfl, by decide +kernel, by decide +kernel, by decide +kernel⟩
theorem zv_Tr_copyNode : zVir y_Tr_copyNode R_Tr c_Tr_copyNode 4 none 3 := ⟨mw_513, mw_9, mw_51, mw_514, rfl, by decide +kernel, by decide +kernel, by decide +kernel⟩
theorem zv_Tr_greatestAt : zVir y_Tr_greatestAt R_Tr c_Tr_greatestAt 2 (some .int) 1 := ⟨mw_528, mw_529, mw_51, mw_530, rfl, by decide +kernel, by decide +kernel, by decide +kernel⟩
theorem zv_Tr_has : zVir y_Tr_has R_Tr c_Tr_has 2 (some .boolean) 1 := ⟨mw_491, mw_7, mw_51, mw_492, rfl, by decide +kernel, by decide +kernel, by decide +kernel⟩
theorem zv_Tr_indexAt : zVir y_Tr_indexAt R_Tr c_Tr_indexAt 2 (some .int) 1 := ⟨mw_520, mw_521, mw_51, mw_522, rfl, by decide +kernel, by decide +kernel, by decide +kernel⟩
theorem zv_Tr_insert : zVir y_Tr_insert R_Tr c_Tr_insert 4 (some .boolean) 2 := ⟨mw_508, mw_509, mw_51, mw_510, rfl, by decide +kernel, by decide +kernel, by decide +kernel⟩
theorem zv_Tr_isFull : zVir y_Tr_isFull R_Tr c_Tr_isFull 1 (some .boolean) 0 := ⟨mw_465, mw_466, mw_51, mw_467, rfl, by decide +kernel, by decide +kernel, by decide +kernel⟩
theorem zv_Tr_isLike : zVir y_Tr_isLike R_Tr c_Tr_isLike 3 (some .boolean) 1 := ⟨mw_715, mw_716, mw_51, mw_717, rfl, by decide +kernel, by decide +kernel, by decide +kernel⟩
theorem zv_Tr_isNodeLike : zVir y_Tr_isNodeLike R_Tr c_Tr_isNodeLike 3 (some .boolean) 2 := ⟨mw_720, mw_18, mw_51, mw_721, rfl, by decide +kernel, by decide +kernel, by decide +kernel⟩
theorem zv_Tr_leastAt : zVir y_Tr_leastAt R_Tr c_Tr_leastAt 2 (some .int) 1 := ⟨mw_524, mw_525, mw_51, mw_526, rfl, by decide +kernel, by decide +kernel, by decide +kernel⟩
theorem zv_Tr_put : zVir y_Tr_put R_Tr c_Tr_put 6 none 5 := ⟨mw_487, mw_6, mw_51, mw_488, rfl, by decide +kernel, by decide +kernel, by decide +kernel⟩
theorem zv_Tr_size : zVir y_Tr_size R_Tr c_Tr_size 1 (some .int) 0 := ⟨mw_435, mw_436, mw_51, mw_437, rfl, by decide +kernel, by decide +kernel, by decide +kernel⟩
theorem zv_Tr_sortAt : zVir y_Tr_sortAt R_Tr c_Tr_sortAt 2 (some .int) 1 := ⟨mw_516, mw_517, mw_51, mw_518, rfl, by decide +kernel, by decide +kernel, by decide +kernel⟩
theorem zv_Un_forget : zVir y_Un_forget R_Un c_Un_forget 1 none 0 := ⟨mw_420, mw_421, mw_50, mw_422, rfl, by decide +kernel, by decide +kernel, by decide +kernel⟩
theorem zv_Un_keep : zVir y_Un_keep R_Un c_Un_keep 5 none 2 := ⟨mw_459, mw_460, mw_50, mw_461, rfl, by decide +kernel, by decide +kernel, by decide +kernel⟩
theorem zv_Un_length : zVir y_Un_length R_Un c_Un_length 1 (some .int) 0 := ⟨mw_585, mw_586, mw_50, mw_587, rfl, by decide +kernel, by decide +kernel, by decide +kernel⟩
theorem zv_Un_letterAt : zVir y_Un_letterAt R_Un c_Un_letterAt 2 (some .int) 1 := ⟨mw_593, mw_594, mw_50, mw_595, rfl, by decide +kernel, by decide +kernel, by decide +kernel⟩
theorem zv_QS_alert : zVir y_QS_alert R_QS c_QS_alert 3 (some .int) 1 := ⟨mw_693, mw_694, mw_47, mw_695, rfl, by decide +kernel, by decide +kernel, by decide +kernel⟩
theorem zv_QS_at : zVir y_QS_at R_QS c_QS_at 2 (some .int) 1 := ⟨mw_703, mw_704, mw_47, mw_705, rfl, by decide +kernel, by decide +kernel, by decide +kernel⟩
theorem zv_QS_broken : zVir y_QS_broken R_QS c_QS_broken 3 (some .int) 0 := ⟨mw_723, mw_724, mw_47, mw_725, rfl, by decide +kernel, by decide +kernel, by decide +kernel⟩
theorem zv_QS_canRun : zVir y_QS_canRun R_QS c_QS_canRun 2 (some .boolean) 1 := ⟨mw_640, mw_14, mw_47, mw_641, rfl, by decide +kernel, by decide +kernel, by decide +kernel⟩
theorem zv_QS_entry : zVir y_QS_entry R_QS c_QS_entry 4 (some .int) 3 := ⟨mw_616, mw_617, mw_47, mw_618, rfl, by decide +kernel, by decide +kernel, by decide +kernel⟩
theorem zv_QS_index : zVir y_QS_index R_QS c_QS_index 2 (some .int) 0 := ⟨mw_292, mw_293, mw_47, mw_294, rfl, by decide +kernel, by decide +kernel, by decide +kernel⟩
theorem zv_QS_isSaved : zVir y_QS_isSaved R_QS c_QS_isSaved 2 (some .boolean) 1 := ⟨mw_644, mw_15, mw_47, mw_645, rfl, by decide +kernel, by decide +kernel, by decide +kernel⟩
theorem zv_QS_near : zVir y_QS_near R_QS c_QS_near 1 (some .int) 0 := ⟨mw_577, mw_578, mw_47, mw_579, rfl, by decide +kernel, by decide +kernel, by decide +kernel⟩
theorem zv_QS_node : zVir y_QS_node R_QS c_QS_node 3 (some .int) 2 := ⟨mw_569, mw_570, mw_47, mw_571, rfl, by decide +kernel, by decide +kernel, by decide +kernel⟩
theorem zv_QS_on : zVir y_QS_on R_QS c_QS_on 3 (some .boolean) 2 := ⟨mw_408, mw_409, mw_47, mw_410, rfl, by decide +kernel, by decide +kernel, by decide +kernel⟩
theorem zv_QS_read : zVir y_QS_read R_QS c_QS_read 5 (some .int) 1 := ⟨mw_416, mw_417, mw_47, mw_418, rfl, by decide +kernel, by decide +kernel, by decide +kernel⟩
theorem zv_QS_record : zVir y_QS_record R_QS c_QS_record 3 (some .int) 1 := ⟨mw_600, mw_601, mw_47, mw_602, rfl, by decide +kernel, by decide +kernel, by decide +kernel⟩
theorem zv_QS_run : zVir y_QS_run R_QS c_QS_run 2 (some .int) 1 := ⟨mw_635, mw_636, mw_47, mw_637, rfl, by decide +kernel, by decide +kernel, by decide +kernel⟩
theorem zv_QS_same : zVir y_QS_same R_QS c_QS_same 3 (some .boolean) 2 := ⟨mw_711, mw_712, mw_47, mw_713, rfl, by decide +kernel, by decide +kernel, by decide +kernel⟩
theorem zv_QS_save : zVir y_QS_save R_QS c_QS_save 2 (some .int) 1 := ⟨mw_626, mw_627, mw_47, mw_628, rfl, by decide +kernel, by decide +kernel, by decide +kernel⟩
theorem zv_QS_sign : zVir y_QS_sign R_QS c_QS_sign 2 none 1 := ⟨mw_284, mw_285, mw_47, mw_286, rfl, by decide +kernel, by decide +kernel, by decide +kernel⟩
theorem zv_Mo_add : zVir y_Mo_add R_Mo c_Mo_add 6 none 4 := ⟨mw_896, mw_32, mw_58, mw_897, rfl, by decide +kernel, by decide +kernel, by decide +kernel⟩
theorem zv_Mo_alert : zVir y_Mo_alert R_Mo c_Mo_alert 3 (some .int) 1 := ⟨mw_979, mw_980, mw_58, mw_981, rfl, by decide +kernel, by decide +kernel, by decide +kernel⟩
theorem zv_Mo_at : zVir y_Mo_at R_Mo c_Mo_at 2 (some .int) 1 := ⟨mw_983, mw_984, mw_58, mw_985, rfl, by decide +kernel, by decide +kernel, by decide +kernel⟩
theorem zv_Mo_bad : zVir y_Mo_bad R_Mo c_Mo_bad 2 (some .boolean) 1 := ⟨mw_865, mw_25, mw_58, mw_866, rfl, by decide +kernel, by decide +kernel, by decide +kernel⟩
theorem zs_Mo_beginsWith : zSta y_Mo_beginsWith c_Mo_beginsWith 3 (some .boolean) 2 := ⟨mw_976, mw_58, mw_977, by decide +kernel, by decide +kernel, by decide +kernel⟩
theorem zv_Mo_broken : zVir y_Mo_broken R_Mo c_Mo_broken 3 (some .int) 0 := ⟨mw_991, mw_992, mw_58, mw_993, rfl, by decide +kernel, by decide +kernel, by decide +kernel⟩
theorem zv_Mo_count : zVir y_Mo_count R_Mo c_Mo_count 3 (some .int) 0 := ⟨mw_877, mw_28, mw_58, mw_878, rfl, by decide +kernel, by decide +kernel, by decide +kernel⟩
theorem zv_Mo_count2 : zVir y_Mo_count2 R_Mo c_Mo_count2 1 (some .int) 0 := ⟨mw_912, mw_36, mw_58, mw_913, rfl, by decide +kernel, by decide +kernel, by decide +kernel⟩
theorem zv_Mo_depth : zVir y_Mo_depth R_Mo c_Mo_depth 3 (some .int) 0 := ⟨mw_861, mw_24, mw_58, mw_862, rfl, by decide +kernel, by decide +kernel, by decide +kernel⟩
theorem zv_Mo_distance : zVir y_Mo_distance R_Mo c_Mo_distance 7 (some .int) 1 := ⟨mw_936, mw_40, mw_58, mw_937, rfl, by decide +kernel, by decide +kernel, by decide +kernel⟩
theorem zv_Mo_entry : zVir y_Mo_entry R_Mo c_Mo_entry 5 (some .int) 3 := ⟨mw_943, mw_944, mw_58, mw_945, rfl, by decide +kernel, by decide +kernel, by decide +kernel⟩
theorem zv_Mo_finds : zVir y_Mo_finds R_Mo c_Mo_finds 6 (some .int) 2 := ⟨mw_965, mw_43, mw_58, mw_966, rfl, by decide +kernel, by decide +kernel, by decide +kernel⟩
theorem zv_Mo_first : zVir y_Mo_first R_Mo c_Mo_first 3 (some .boolean) 0 := ⟨mw_857, mw_23, mw_58, mw_858, rfl, by decide +kernel, by decide +kernel, by decide +kernel⟩
theorem zv_Mo_has : zVir y_Mo_has R_Mo c_Mo_has 8 (some .boolean) 2 := ⟨mw_973, mw_45, mw_58, mw_974, rfl, by decide +kernel, by decide +kernel, by decide +kernel⟩
theorem zv_Mo_index : zVir y_Mo_index R_Mo c_Mo_index 4 (some .int) 0 := ⟨mw_825, mw_826, mw_58, mw_827, rfl, by decide +kernel, by decide +kernel, by decide +kernel⟩
theorem zv_Mo_isBroken : zVir y_Mo_isBroken R_Mo c_Mo_isBroken 5 (some .boolean) 1 := ⟨mw_961, mw_42, mw_58, mw_962, rfl, by decide +kernel, by decide +kernel, by decide +kernel⟩
theorem zs_Mo_isDigit : zSta y_Mo_isDigit c_Mo_isDigit 1 (some .boolean) 1 := ⟨mw_888, mw_58, mw_889, by decide +kernel, by decide +kernel, by decide +kernel⟩
theorem zs_Mo_isLetter : zSta y_Mo_isLetter c_Mo_isLetter 1 (some .boolean) 1 := ⟨mw_837, mw_58, mw_838, by decide +kernel, by decide +kernel, by decide +kernel⟩
theorem zv_Mo_isSaved : zVir y_Mo_isSaved R_Mo c_Mo_isSaved 2 (some .boolean) 1 := ⟨mw_957, mw_41, mw_58, mw_958, rfl, by decide +kernel, by decide +kernel, by decide +kernel⟩
theorem zv_Mo_join : zVir y_Mo_join R_Mo c_Mo_join 4 none 1 := ⟨mw_904, mw_34, mw_58, mw_905, rfl, by decide +kernel, by decide +kernel, by decide +kernel⟩
theorem zv_Mo_lay : zVir y_Mo_lay R_Mo c_Mo_lay 4 none 0 := ⟨mw_924, mw_39, mw_58, mw_925, rfl, by decide +kernel, by decide +kernel, by decide +kernel⟩
theorem zv_Mo_leaf : zVir y_Mo_leaf R_Mo c_Mo_leaf 4 (some .boolean) 0 := ⟨mw_869, mw_26, mw_58, mw_870, rfl, by decide +kernel, by decide +kernel, by decide +kernel⟩
theorem zv_Mo_letters : zVir y_Mo_letters R_Mo c_Mo_letters 3 (some .int) 1 := ⟨mw_830, mw_19, mw_58, mw_831, rfl, by decide +kernel, by decide +kernel, by decide +kernel⟩
theorem zv_Mo_look : zVir y_Mo_look R_Mo c_Mo_look 2 (some .int) 1 := ⟨mw_834, mw_20, mw_58, mw_835, rfl, by decide +kernel, by decide +kernel, by decide +kernel⟩
theorem zv_Mo_meetsAll : zVir y_Mo_meetsAll R_Mo c_Mo_meetsAll 9 (some .boolean) 2 := ⟨mw_969, mw_44, mw_58, mw_970, rfl, by decide +kernel, by decide +kernel, by decide +kernel⟩
theorem zv_Mo_must : zVir y_Mo_must R_Mo c_Mo_must 2 (some .boolean) 1 := ⟨mw_881, mw_29, mw_58, mw_882, rfl, by decide +kernel, by decide +kernel, by decide +kernel⟩
theorem zv_Mo_must2 : zVir y_Mo_must2 R_Mo c_Mo_must2 3 (some .boolean) 2 := ⟨mw_916, mw_37, mw_58, mw_917, rfl, by decide +kernel, by decide +kernel, by decide +kernel⟩
theorem zv_Mo_name : zVir y_Mo_name R_Mo c_Mo_name 4 (some .int) 0 := ⟨mw_873, mw_27, mw_58, mw_874, rfl, by decide +kernel, by decide +kernel, by decide +kernel⟩
theorem zv_Mo_named : zVir y_Mo_named R_Mo c_Mo_named 6 (some .int) 2 := ⟨mw_845, mw_22, mw_58, mw_846, rfl, by decide +kernel, by decide +kernel, by decide +kernel⟩
theorem zv_Mo_named2 : zVir y_Mo_named2 R_Mo c_Mo_named2 3 (some .boolean) 0 := ⟨mw_920, mw_38, mw_58, mw_921, rfl, by decide +kernel, by decide +kernel, by decide +kernel⟩
theorem zv_Mo_near : zVir y_Mo_near R_Mo c_Mo_near 5 (some .int) 0 := ⟨mw_931, mw_932, mw_58, mw_933, rfl, by decide +kernel, by decide +kernel, by decide +kernel⟩
theorem zv_Mo_node : zVir y_Mo_node R_Mo c_Mo_node 3 (some .int) 2 := ⟨mw_927, mw_928, mw_58, mw_929, rfl, by decide +kernel, by decide +kernel, by decide +kernel⟩
theorem zv_Mo_on : zVir y_Mo_on R_Mo c_Mo_on 4 (some .boolean) 2 := ⟨mw_848, mw_849, mw_58, mw_850, rfl, by decide +kernel, by decide +kernel, by decide +kernel⟩
theorem zv_Mo_range : zVir y_Mo_range R_Mo c_Mo_range 5 (some .boolean) 2 := ⟨mw_892, mw_31, mw_58, mw_893, rfl, by decide +kernel, by decide +kernel, by decide +kernel⟩
theorem zv_Mo_read : zVir y_Mo_read R_Mo c_Mo_read 3 (some .int) 1 := ⟨mw_852, mw_853, mw_58, mw_854, rfl, by decide +kernel, by decide +kernel, by decide +kernel⟩
theorem zv_Mo_record : zVir y_Mo_record R_Mo c_Mo_record 3 (some .int) 1 := ⟨mw_939, mw_940, mw_58, mw_941, rfl, by decide +kernel, by decide +kernel, by decide +kernel⟩
theorem zv_Mo_run : zVir y_Mo_run R_Mo c_Mo_run 2 (some .int) 1 := ⟨mw_952, mw_953, mw_58, mw_954, rfl, by decide +kernel, by decide +kernel, by decide +kernel⟩
theorem zv_Mo_same : zVir y_Mo_same R_Mo c_Mo_same 5 (some .boolean) 2 := ⟨mw_987, mw_988, mw_58, mw_989, rfl, by decide +kernel, by decide +kernel, by decide +kernel⟩
theorem zv_Mo_save : zVir y_Mo_save R_Mo c_Mo_save 3 (some .int) 1 := ⟨mw_948, mw_949, mw_58, mw_950, rfl, by decide +kernel, by decide +kernel, by decide +kernel⟩
theorem zv_Mo_second : zVir y_Mo_second R_Mo c_Mo_second 4 (some .boolean) 0 := ⟨mw_908, mw_35, mw_58, mw_909, rfl, by decide +kernel, by decide +kernel, by decide +kernel⟩
theorem zv_Mo_settle : zVir y_Mo_settle R_Mo c_Mo_settle 2 none 1 := ⟨mw_900, mw_33, mw_58, mw_901, rfl, by decide +kernel, by decide +kernel, by decide +kernel⟩
theorem zv_Mo_sign : zVir y_Mo_sign R_Mo c_Mo_sign 2 none 1 := ⟨mw_821, mw_822, mw_58, mw_823, rfl, by decide +kernel, by decide +kernel, by decide +kernel⟩
theorem zv_Mo_value : zVir y_Mo_value R_Mo c_Mo_value 3 (some .int) 0 := ⟨mw_885, mw_30, mw_58, mw_886, rfl, by decide +kernel, by decide +kernel, by decide +kernel⟩
theorem zv_Mo_word : zVir y_Mo_word R_Mo c_Mo_word 6 (some .int) 2 := ⟨mw_841, mw_21, mw_58, mw_842, rfl, by decide +kernel, by decide +kernel, by decide +kernel⟩
end
section
theorem d_Hi_init_0 : decode c_Hi_init 0 = .ok (.aload_n 0, 1) := by decide +kernel
theorem d_Hi_init_1 : decode c_Hi_init 1 = .ok (.invokespecial 3, 3) := by decide +kernel
theorem d_Hi_init_4 : decode c_Hi_init 4 = .ok (.aload_n 0, 1) := by decide +kernel
theorem d_Hi_init_5 : decode c_Hi_init 5 = .ok (.bipush 60, 2) := by decide +kernel
theorem d_Hi_init_7 : decode c_Hi_init 7 = .ok (.newarray .int, 2) := by decide +kernel
theorem d_Hi_init_9 : decode c_Hi_init 9 = .ok (.putfield 9, 3) := by decide +kernel
theorem d_Hi_init_12 : decode c_Hi_init 12 = .ok (.aload_n 0, 1) := by decide +kernel
theorem d_Hi_init_13 : decode c_Hi_init 13 = .ok (.iconst 0, 1) := by decide +kernel
theorem d_Hi_init_14 : decode c_Hi_init 14 = .ok (.putfield 15, 3) := by decide +kernel
theorem d_Hi_init_17 : decode c_Hi_init 17 = .ok (.return_, 1) := by decide +kernel
theorem d_Hi_numberAt_0 : decode c_Hi_numberAt 0 = .ok (.iload_n 1, 1) := by decide +kernel
theorem d_Hi_numberAt_1 : decode c_Hi_numberAt 1 = .ok (.ifCond .lt 26, 3) := by decide +kernel
theorem d_Hi_numberAt_4 : decode c_Hi_numberAt 4 = .ok (.iload_n 1, 1) := by decide +kernel
theorem d_Hi_numberAt_5 : decode c_Hi_numberAt 5 = .ok (.aload_n 0, 1) := by decide +kernel
theorem d_Hi_numberAt_6 : decode c_Hi_numberAt 6 = .ok (.getfield 15, 3) := by decide +kernel
theorem d_Hi_numberAt_9 : decode c_Hi_numberAt 9 = .ok (.if_icmp .ge 18, 3) := by decide +kernel
theorem d_Hi_numberAt_12 : decode c_Hi_numberAt 12 = .ok (.iload_n 1, 1) := by decide +kernel
theorem d_Hi_numberAt_13 : decode c_Hi_numberAt 13 = .ok (.bipush 60, 2) := by decide +kernel
theorem d_Hi_numberAt_15 : decode c_Hi_numberAt 15 = .ok (.if_icmp .ge 12, 3) := by decide +kernel
theorem d_Hi_numberAt_18 : decode c_Hi_numberAt 18 = .ok (.aload_n 0, 1) := by decide +kernel
theorem d_Hi_numberAt_19 : decode c_Hi_numberAt 19 = .ok (.getfield 9, 3) := by decide +kernel
theorem d_Hi_numberAt_22 : decode c_Hi_numberAt 22 = .ok (.iload_n 1, 1) := by decide +kernel
theorem d_Hi_numberAt_23 : decode c_Hi_numberAt 23 = .ok (.iaload, 1) := by decide +kernel
theorem d_Hi_numberAt_24 : decode c_Hi_numberAt 24 = .ok (.goto 4, 3) := by decide +kernel
theorem d_Hi_numberAt_27 : decode c_Hi_numberAt 27 = .ok (.iconst 0, 1) := by decide +kernel
theorem d_Hi_numberAt_28 : decode c_Hi_numberAt 28 = .ok (.ireturn, 1) := by decide +kernel
theorem d_Hi_gather_0 : decode c_Hi_gather 0 = .ok (.aload_n 0, 1) := by decide +kernel
theorem d_Hi_gather_1 : decode c_Hi_gather 1 = .ok (.iconst 0, 1) := by decide +kernel
theorem d_Hi_gather_2 : decode c_Hi_gather 2 = .ok (.putfield 15, 3) := by decide +kernel
theorem d_Hi_gather_5 : decode c_Hi_gather 5 = .ok (.iconst 1, 1) := by decide +kernel
theorem d_Hi_gather_6 : decode c_Hi_gather 6 = .ok (.istore 4, 2) := by decide +kernel
theorem d_Hi_gather_8 : decode c_Hi_gather 8 = .ok (.iload 4, 2) := by decide +kernel
theorem d_Hi_gather_10 : decode c_Hi_gather 10 = .ok (.aload_n 1, 1) := by decide +kernel
theorem d_Hi_gather_11 : decode c_Hi_gather 11 = .ok (.invokevirtual 19, 3) := by decide +kernel
theorem d_Hi_gather_14 : decode c_Hi_gather 14 = .ok (.if_icmp .gt 58, 3) := by decide +kernel
theorem d_Hi_gather_17 : decode c_Hi_gather 17 = .ok (.iload_n 3, 1) := by decide +kernel
theorem d_Hi_gather_18 : decode c_Hi_gather 18 = .ok (.ifCond .eq 16, 3) := by decide +kernel
theorem d_Hi_gather_21 : decode c_Hi_gather 21 = .ok (.aload_n 2, 1) := by decide +kernel
theorem d_Hi_gather_22 : decode c_Hi_gather 22 = .ok (.aload_n 1, 1) := by decide +kernel
theorem d_Hi_gather_23 : decode c_Hi_gather 23 = .ok (.iload 4, 2) := by decide +kernel
theorem d_Hi_gather_25 : decode c_Hi_gather 25 = .ok (.invokevirtual 25, 3) := by decide +kernel
theorem d_Hi_gather_28 : decode c_Hi_gather 28 = .ok (.invokevirtual 29, 3) := by decide +kernel
theorem d_Hi_gather_31 : decode c_Hi_gather 31 = .ok (.ifCond .eq 7, 3) := by decide +kernel
theorem d_Hi_gather_34 : decode c_Hi_gather 34 = .ok (.iconst 1, 1) := by decide +kernel
theorem d_Hi_gather_35 : decode c_Hi_gather 35 = .ok (.goto 4, 3) := by decide +kernel
theorem d_Hi_gather_38 : decode c_Hi_gather 38 = .ok (.iconst 0, 1) := by decide +kernel
theorem d_Hi_gather_39 : decode c_Hi_gather 39 = .ok (.istore 5, 2) := by decide +kernel
theorem d_Hi_gather_41 : decode c_Hi_gather 41 = .ok (.iload 5, 2) := by decide +kernel
theorem d_Hi_gather_43 : decode c_Hi_gather 43 = .ok (.ifCond .eq 23, 3) := by decide +kernel
theorem d_Hi_gather_46 : decode c_Hi_gather 46 = .ok (.aload_n 1, 1) := by decide +kernel
theorem d_Hi_gather_47 : decode c_Hi_gather 47 = .ok (.aload_n 2, 1) := by decide +kernel
theorem d_Hi_gather_48 : decode c_Hi_gather 48 = .ok (.getfield 35, 3) := by decide +kernel
theorem d_Hi_gather_51 : decode c_Hi_gather 51 = .ok (.iload 4, 2) := by decide +kernel
theorem d_Hi_gather_53 : decode c_Hi_gather 53 = .ok (.invokevirtual 39, 3) := by decide +kernel
theorem d_Hi_gather_56 : decode c_Hi_gather 56 = .ok (.ifCond .eq 10, 3) := by decide +kernel
theorem d_Hi_gather_59 : decode c_Hi_gather 59 = .ok (.aload_n 0, 1) := by decide +kernel
theorem d_Hi_gather_60 : decode c_Hi_gather 60 = .ok (.aload_n 1, 1) := by decide +kernel
theorem d_Hi_gather_61 : decode c_Hi_gather 61 = .ok (.iload 4, 2) := by decide +kernel
theorem d_Hi_gather_63 : decode c_Hi_gather 63 = .ok (.invokevirtual 43, 3) := by decide +kernel
theorem d_Hi_gather_66 : decode c_Hi_gather 66 = .ok (.iinc 4 1, 3) := by decide +kernel
theorem d_Hi_gather_69 : decode c_Hi_gather 69 = .ok (.goto (-61), 3) := by decide +kernel
theorem d_Hi_gather_72 : decode c_Hi_gather 72 = .ok (.aload_n 0, 1) := by decide +kernel
theorem d_Hi_gather_73 : decode c_Hi_gather 73 = .ok (.getfield 15, 3) := by decide +kernel
theorem d_Hi_gather_76 : decode c_Hi_gather 76 = .ok (.ireturn, 1) := by decide +kernel
theorem d_Hi_insert_0 : decode c_Hi_insert 0 = .ok (.aload_n 0, 1) := by decide +kernel
theorem d_Hi_insert_1 : decode c_Hi_insert 1 = .ok (.getfield 15, 3) := by decide +kernel
theorem d_Hi_insert_4 : decode c_Hi_insert 4 = .ok (.ifCond .lt 12, 3) := by decide +kernel
theorem d_Hi_insert_7 : decode c_Hi_insert 7 = .ok (.aload_n 0, 1) := by decide +kernel
theorem d_Hi_insert_8 : decode c_Hi_insert 8 = .ok (.getfield 15, 3) := by decide +kernel
theorem d_Hi_insert_11 : decode c_Hi_insert 11 = .ok (.bipush 60, 2) := by decide +kernel
theorem d_Hi_insert_13 : decode c_Hi_insert 13 = .ok (.if_icmp .lt 4, 3) := by decide +kernel
theorem d_Hi_insert_16 : decode c_Hi_insert 16 = .ok (.return_, 1) := by decide +kernel
theorem d_Hi_insert_17 : decode c_Hi_insert 17 = .ok (.aload_n 0, 1) := by decide +kernel
theorem d_Hi_insert_18 : decode c_Hi_insert 18 = .ok (.getfield 15, 3) := by decide +kernel
theorem d_Hi_insert_21 : decode c_Hi_insert 21 = .ok (.istore_n 3, 1) := by decide +kernel
theorem d_Hi_insert_22 : decode c_Hi_insert 22 = .ok (.iload_n 3, 1) := by decide +kernel
theorem d_Hi_insert_23 : decode c_Hi_insert 23 = .ok (.ifCond .le 44, 3) := by decide +kernel
theorem d_Hi_insert_26 : decode c_Hi_insert 26 = .ok (.aload_n 1, 1) := by decide +kernel
theorem d_Hi_insert_27 : decode c_Hi_insert 27 = .ok (.aload_n 0, 1) := by decide +kernel
theorem d_Hi_insert_28 : decode c_Hi_insert 28 = .ok (.getfield 9, 3) := by decide +kernel
theorem d_Hi_insert_31 : decode c_Hi_insert 31 = .ok (.iload_n 3, 1) := by decide +kernel
theorem d_Hi_insert_32 : decode c_Hi_insert 32 = .ok (.iconst 1, 1) := by decide +kernel
theorem d_Hi_insert_33 : decode c_Hi_insert 33 = .ok (.isub, 1) := by decide +kernel
theorem d_Hi_insert_34 : decode c_Hi_insert 34 = .ok (.iaload, 1) := by decide +kernel
theorem d_Hi_insert_35 : decode c_Hi_insert 35 = .ok (.invokevirtual 25, 3) := by decide +kernel
theorem d_Hi_insert_38 : decode c_Hi_insert 38 = .ok (.aload_n 1, 1) := by decide +kernel
theorem d_Hi_insert_39 : decode c_Hi_insert 39 = .ok (.iload_n 2, 1) := by decide +kernel
theorem d_Hi_insert_40 : decode c_Hi_insert 40 = .ok (.invokevirtual 25, 3) := by decide +kernel
theorem d_Hi_insert_43 : decode c_Hi_insert 43 = .ok (.lcmp, 1) := by decide +kernel
theorem d_Hi_insert_44 : decode c_Hi_insert 44 = .ok (.ifCond .ge 23, 3) := by decide +kernel
theorem d_Hi_insert_47 : decode c_Hi_insert 47 = .ok (.aload_n 0, 1) := by decide +kernel
theorem d_Hi_insert_48 : decode c_Hi_insert 48 = .ok (.getfield 9, 3) := by decide +kernel
theorem d_Hi_insert_51 : decode c_Hi_insert 51 = .ok (.iload_n 3, 1) := by decide +kernel
theorem d_Hi_insert_52 : decode c_Hi_insert 52 = .ok (.aload_n 0, 1) := by decide +kernel
theorem d_Hi_insert_53 : decode c_Hi_insert 53 = .ok (.getfield 9, 3) := by decide +kernel
theorem d_Hi_insert_56 : decode c_Hi_insert 56 = .ok (.iload_n 3, 1) := by decide +kernel
theorem d_Hi_insert_57 : decode c_Hi_insert 57 = .ok (.iconst 1, 1) := by decide +kernel
theorem d_Hi_insert_58 : decode c_Hi_insert 58 = .ok (.isub, 1) := by decide +kernel
theorem d_Hi_insert_59 : decode c_Hi_insert 59 = .ok (.iaload, 1) := by decide +kernel
theorem d_Hi_insert_60 : decode c_Hi_insert 60 = .ok (.iastore, 1) := by decide +kernel
theorem d_Hi_insert_61 : decode c_Hi_insert 61 = .ok (.iinc 3 (-1), 3) := by decide +kernel
theorem d_Hi_insert_64 : decode c_Hi_insert 64 = .ok (.goto (-42), 3) := by decide +kernel
theorem d_Hi_insert_67 : decode c_Hi_insert 67 = .ok (.aload_n 0, 1) := by decide +kernel
theorem d_Hi_insert_68 : decode c_Hi_insert 68 = .ok (.getfield 9, 3) := by decide +kernel
theorem d_Hi_insert_71 : decode c_Hi_insert 71 = .ok (.iload_n 3, 1) := by decide +kernel
theorem d_Hi_insert_72 : decode c_Hi_insert 72 = .ok (.iload_n 2, 1) := by decide +kernel
theorem d_Hi_insert_73 : decode c_Hi_insert 73 = .ok (.iastore, 1) := by decide +kernel
theorem d_Hi_insert_74 : decode c_Hi_insert 74 = .ok (.aload_n 0, 1) := by decide +kernel
theorem d_Hi_insert_75 : decode c_Hi_insert 75 = .ok (.dup, 1) := by decide +kernel
theorem d_Hi_insert_76 : decode c_Hi_insert 76 = .ok (.getfield 15, 3) := by decide +kernel
theorem d_Hi_insert_79 : decode c_Hi_insert 79 = .ok (.iconst 1, 1) := by decide +kernel
theorem d_Hi_insert_80 : decode c_Hi_insert 80 = .ok (.iadd, 1) := by decide +kernel
theorem d_Hi_insert_81 : decode c_Hi_insert 81 = .ok (.putfield 15, 3) := by decide +kernel
theorem d_Hi_insert_84 : decode c_Hi_insert 84 = .ok (.return_, 1) := by decide +kernel
theorem d_Qu_init_0 : decode c_Qu_init 0 = .ok (.aload_n 0, 1) := by decide +kernel
theorem d_Qu_init_1 : decode c_Qu_init 1 = .ok (.invokespecial 1, 3) := by decide +kernel
theorem d_Qu_init_4 : decode c_Qu_init 4 = .ok (.aload_n 0, 1) := by decide +kernel
theorem d_Qu_init_5 : decode c_Qu_init 5 = .ok (.new 7, 3) := by decide +kernel
theorem d_Qu_init_8 : decode c_Qu_init 8 = .ok (.dup, 1) := by decide +kernel
theorem d_Qu_init_9 : decode c_Qu_init 9 = .ok (.invokespecial 9, 3) := by decide +kernel
theorem d_Qu_init_12 : decode c_Qu_init 12 = .ok (.putfield 10, 3) := by decide +kernel
theorem d_Qu_init_15 : decode c_Qu_init 15 = .ok (.aload_n 0, 1) := by decide +kernel
theorem d_Qu_init_16 : decode c_Qu_init 16 = .ok (.iconst 0, 1) := by decide +kernel
theorem d_Qu_init_17 : decode c_Qu_init 17 = .ok (.putfield 16, 3) := by decide +kernel
theorem d_Qu_init_20 : decode c_Qu_init 20 = .ok (.aload_n 0, 1) := by decide +kernel
theorem d_Qu_init_21 : decode c_Qu_init 21 = .ok (.iconst 0, 1) := by decide +kernel
theorem d_Qu_init_22 : decode c_Qu_init 22 = .ok (.putfield 20, 3) := by decide +kernel
theorem d_Qu_init_25 : decode c_Qu_init 25 = .ok (.aload_n 0, 1) := by decide +kernel
theorem d_Qu_init_26 : decode c_Qu_init 26 = .ok (.lconst 0, 1) := by decide +kernel
theorem d_Qu_init_27 : decode c_Qu_init 27 = .ok (.putfield 23, 3) := by decide +kernel
theorem d_Qu_init_30 : decode c_Qu_init 30 = .ok (.return_, 1) := by decide +kernel
theorem d_Qu_keep_0 : decode c_Qu_keep 0 = .ok (.aload_n 0, 1) := by decide +kernel
theorem d_Qu_keep_1 : decode c_Qu_keep 1 = .ok (.getfield 10, 3) := by decide +kernel
theorem d_Qu_keep_4 : decode c_Qu_keep 4 = .ok (.aload_n 1, 1) := by decide +kernel
theorem d_Qu_keep_5 : decode c_Qu_keep 5 = .ok (.invokevirtual 27, 3) := by decide +kernel
theorem d_Qu_keep_8 : decode c_Qu_keep 8 = .ok (.aload_n 0, 1) := by decide +kernel
theorem d_Qu_keep_9 : decode c_Qu_keep 9 = .ok (.iconst 1, 1) := by decide +kernel
theorem d_Qu_keep_10 : decode c_Qu_keep 10 = .ok (.putfield 16, 3) := by decide +kernel
theorem d_Qu_keep_13 : decode c_Qu_keep 13 = .ok (.aload_n 0, 1) := by decide +kernel
theorem d_Qu_keep_14 : decode c_Qu_keep 14 = .ok (.iconst 0, 1) := by decide +kernel
theorem d_Qu_keep_15 : decode c_Qu_keep 15 = .ok (.putfield 20, 3) := by decide +kernel
theorem d_Qu_keep_18 : decode c_Qu_keep 18 = .ok (.return_, 1) := by decide +kernel
theorem d_Qu_lookedUpTo_0 : decode c_Qu_lookedUpTo 0 = .ok (.aload_n 0, 1) := by decide +kernel
theorem d_Qu_lookedUpTo_1 : decode c_Qu_lookedUpTo 1 = .ok (.iconst 1, 1) := by decide +kernel
theorem d_Qu_lookedUpTo_2 : decode c_Qu_lookedUpTo 2 = .ok (.putfield 20, 3) := by decide +kernel
theorem d_Qu_lookedUpTo_5 : decode c_Qu_lookedUpTo 5 = .ok (.aload_n 0, 1) := by decide +kernel
theorem d_Qu_lookedUpTo_6 : decode c_Qu_lookedUpTo 6 = .ok (.lload_n 1, 1) := by decide +kernel
theorem d_Qu_lookedUpTo_7 : decode c_Qu_lookedUpTo 7 = .ok (.putfield 23, 3) := by decide +kernel
theorem d_Qu_lookedUpTo_10 : decode c_Qu_lookedUpTo 10 = .ok (.return_, 1) := by decide +kernel
theorem d_Qu_isNew_0 : decode c_Qu_isNew 0 = .ok (.aload_n 0, 1) := by decide +kernel
theorem d_Qu_isNew_1 : decode c_Qu_isNew 1 = .ok (.getfield 20, 3) := by decide +kernel
theorem d_Qu_isNew_4 : decode c_Qu_isNew 4 = .ok (.ifCond .eq 12, 3) := by decide +kernel
theorem d_Qu_isNew_7 : decode c_Qu_isNew 7 = .ok (.lload_n 1, 1) := by decide +kernel
theorem d_Qu_isNew_8 : decode c_Qu_isNew 8 = .ok (.aload_n 0, 1) := by decide +kernel
theorem d_Qu_isNew_9 : decode c_Qu_isNew 9 = .ok (.getfield 23, 3) := by decide +kernel
theorem d_Qu_isNew_12 : decode c_Qu_isNew 12 = .ok (.lcmp, 1) := by decide +kernel
theorem d_Qu_isNew_13 : decode c_Qu_isNew 13 = .ok (.ifCond .le 7, 3) := by decide +kernel
theorem d_Qu_isNew_16 : decode c_Qu_isNew 16 = .ok (.iconst 1, 1) := by decide +kernel
theorem d_Qu_isNew_17 : decode c_Qu_isNew 17 = .ok (.goto 4, 3) := by decide +kernel
theorem d_Qu_isNew_20 : decode c_Qu_isNew 20 = .ok (.iconst 0, 1) := by decide +kernel
theorem d_Qu_isNew_21 : decode c_Qu_isNew 21 = .ok (.ireturn, 1) := by decide +kernel
theorem d_So_init_0 : decode c_So_init 0 = .ok (.aload_n 0, 1) := by decide +kernel
theorem d_So_init_1 : decode c_So_init 1 = .ok (.invokespecial 3, 3) := by decide +kernel
theorem d_So_init_4 : decode c_So_init 4 = .ok (.aload_n 0, 1) := by decide +kernel
theorem d_So_init_5 : decode c_So_init 5 = .ok (.sipush 200, 3) := by decide +kernel
theorem d_So_init_8 : decode c_So_init 8 = .ok (.newarray .int, 2) := by decide +kernel
theorem d_So_init_10 : decode c_So_init 10 = .ok (.putfield 9, 3) := by decide +kernel
theorem d_So_init_13 : decode c_So_init 13 = .ok (.aload_n 0, 1) := by decide +kernel
theorem d_So_init_14 : decode c_So_init 14 = .ok (.iconst 0, 1) := by decide +kernel
theorem d_So_init_15 : decode c_So_init 15 = .ok (.putfield 15, 3) := by decide +kernel
theorem d_So_init_18 : decode c_So_init 18 = .ok (.aload_n 0, 1) := by decide +kernel
theorem d_So_init_19 : decode c_So_init 19 = .ok (.iconst 0, 1) := by decide +kernel
theorem d_So_init_20 : decode c_So_init 20 = .ok (.putfield 19, 3) := by decide +kernel
theorem d_So_init_23 : decode c_So_init 23 = .ok (.return_, 1) := by decide +kernel
theorem d_So_collect_0 : decode c_So_collect 0 = .ok (.aload_n 0, 1) := by decide +kernel
theorem d_So_collect_1 : decode c_So_collect 1 = .ok (.getfield 15, 3) := by decide +kernel
theorem d_So_collect_4 : decode c_So_collect 4 = .ok (.ifCond .lt 33, 3) := by decide +kernel
theorem d_So_collect_7 : decode c_So_collect 7 = .ok (.aload_n 0, 1) := by decide +kernel
theorem d_So_collect_8 : decode c_So_collect 8 = .ok (.getfield 15, 3) := by decide +kernel
theorem d_So_collect_11 : decode c_So_collect 11 = .ok (.sipush 200, 3) := by decide +kernel
theorem d_So_collect_14 : decode c_So_collect 14 = .ok (.if_icmp .ge 23, 3) := by decide +kernel
theorem d_So_collect_17 : decode c_So_collect 17 = .ok (.aload_n 0, 1) := by decide +kernel
theorem d_So_collect_18 : decode c_So_collect 18 = .ok (.getfield 9, 3) := by decide +kernel
theorem d_So_collect_21 : decode c_So_collect 21 = .ok (.aload_n 0, 1) := by decide +kernel
theorem d_So_collect_22 : decode c_So_collect 22 = .ok (.getfield 15, 3) := by decide +kernel
theorem d_So_collect_25 : decode c_So_collect 25 = .ok (.iload_n 1, 1) := by decide +kernel
theorem d_So_collect_26 : decode c_So_collect 26 = .ok (.iastore, 1) := by decide +kernel
theorem d_So_collect_27 : decode c_So_collect 27 = .ok (.aload_n 0, 1) := by decide +kernel
theorem d_So_collect_28 : decode c_So_collect 28 = .ok (.dup, 1) := by decide +kernel
theorem d_So_collect_29 : decode c_So_collect 29 = .ok (.getfield 15, 3) := by decide +kernel
theorem d_So_collect_32 : decode c_So_collect 32 = .ok (.iconst 1, 1) := by decide +kernel
theorem d_So_collect_33 : decode c_So_collect 33 = .ok (.iadd, 1) := by decide +kernel
theorem d_So_collect_34 : decode c_So_collect 34 = .ok (.putfield 15, 3) := by decide +kernel
theorem d_So_collect_37 : decode c_So_collect 37 = .ok (.return_, 1) := by decide +kernel
theorem d_So_clear_0 : decode c_So_clear 0 = .ok (.aload_n 0, 1) := by decide +kernel
theorem d_So_clear_1 : decode c_So_clear 1 = .ok (.iconst 0, 1) := by decide +kernel
theorem d_So_clear_2 : decode c_So_clear 2 = .ok (.putfield 15, 3) := by decide +kernel
theorem d_So_clear_5 : decode c_So_clear 5 = .ok (.aload_n 0, 1) := by decide +kernel
theorem d_So_clear_6 : decode c_So_clear 6 = .ok (.iconst 0, 1) := by decide +kernel
theorem d_So_clear_7 : decode c_So_clear 7 = .ok (.putfield 19, 3) := by decide +kernel
theorem d_So_clear_10 : decode c_So_clear 10 = .ok (.return_, 1) := by decide +kernel
theorem d_So_length_0 : decode c_So_length 0 = .ok (.aload_n 0, 1) := by decide +kernel
theorem d_So_length_1 : decode c_So_length 1 = .ok (.getfield 15, 3) := by decide +kernel
theorem d_So_length_4 : decode c_So_length 4 = .ok (.ireturn, 1) := by decide +kernel
theorem d_So_place_0 : decode c_So_place 0 = .ok (.aload_n 0, 1) := by decide +kernel
theorem d_So_place_1 : decode c_So_place 1 = .ok (.getfield 19, 3) := by decide +kernel
theorem d_So_place_4 : decode c_So_place 4 = .ok (.ireturn, 1) := by decide +kernel
theorem d_So_moveTo_0 : decode c_So_moveTo 0 = .ok (.aload_n 0, 1) := by decide +kernel
theorem d_So_moveTo_1 : decode c_So_moveTo 1 = .ok (.iload_n 1, 1) := by decide +kernel
theorem d_So_moveTo_2 : decode c_So_moveTo 2 = .ok (.putfield 19, 3) := by decide +kernel
theorem d_So_moveTo_5 : decode c_So_moveTo 5 = .ok (.return_, 1) := by decide +kernel
theorem d_So_isAtEnd_0 : decode c_So_isAtEnd 0 = .ok (.aload_n 0, 1) := by decide +kernel
theorem d_So_isAtEnd_1 : decode c_So_isAtEnd 1 = .ok (.getfield 19, 3) := by decide +kernel
theorem d_So_isAtEnd_4 : decode c_So_isAtEnd 4 = .ok (.aload_n 0, 1) := by decide +kernel
theorem d_So_isAtEnd_5 : decode c_So_isAtEnd 5 = .ok (.getfield 15, 3) := by decide +kernel
theorem d_So_isAtEnd_8 : decode c_So_isAtEnd 8 = .ok (.if_icmp .lt 7, 3) := by decide +kernel
theorem d_So_isAtEnd_11 : decode c_So_isAtEnd 11 = .ok (.iconst 1, 1) := by decide +kernel
theorem d_So_isAtEnd_12 : decode c_So_isAtEnd 12 = .ok (.goto 4, 3) := by decide +kernel
theorem d_So_isAtEnd_15 : decode c_So_isAtEnd 15 = .ok (.iconst 0, 1) := by decide +kernel
theorem d_So_isAtEnd_16 : decode c_So_isAtEnd 16 = .ok (.ireturn, 1) := by decide +kernel
theorem d_So_signAt_0 : decode c_So_signAt 0 = .ok (.iload_n 1, 1) := by decide +kernel
theorem d_So_signAt_1 : decode c_So_signAt 1 = .ok (.ifCond .lt 27, 3) := by decide +kernel
theorem d_So_signAt_4 : decode c_So_signAt 4 = .ok (.iload_n 1, 1) := by decide +kernel
theorem d_So_signAt_5 : decode c_So_signAt 5 = .ok (.aload_n 0, 1) := by decide +kernel
theorem d_So_signAt_6 : decode c_So_signAt 6 = .ok (.getfield 15, 3) := by decide +kernel
theorem d_So_signAt_9 : decode c_So_signAt 9 = .ok (.if_icmp .ge 19, 3) := by decide +kernel
theorem d_So_signAt_12 : decode c_So_signAt 12 = .ok (.iload_n 1, 1) := by decide +kernel
theorem d_So_signAt_13 : decode c_So_signAt 13 = .ok (.sipush 200, 3) := by decide +kernel
theorem d_So_signAt_16 : decode c_So_signAt 16 = .ok (.if_icmp .ge 12, 3) := by decide +kernel
theorem d_So_signAt_19 : decode c_So_signAt 19 = .ok (.aload_n 0, 1) := by decide +kernel
theorem d_So_signAt_20 : decode c_So_signAt 20 = .ok (.getfield 9, 3) := by decide +kernel
theorem d_So_signAt_23 : decode c_So_signAt 23 = .ok (.iload_n 1, 1) := by decide +kernel
theorem d_So_signAt_24 : decode c_So_signAt 24 = .ok (.iaload, 1) := by decide +kernel
theorem d_So_signAt_25 : decode c_So_signAt 25 = .ok (.goto 4, 3) := by decide +kernel
theorem d_So_signAt_28 : decode c_So_signAt 28 = .ok (.iconst (-1), 1) := by decide +kernel
theorem d_So_signAt_29 : decode c_So_signAt 29 = .ok (.ireturn, 1) := by decide +kernel
theorem d_So_take_0 : decode c_So_take 0 = .ok (.aload_n 0, 1) := by decide +kernel
theorem d_So_take_1 : decode c_So_take 1 = .ok (.aload_n 0, 1) := by decide +kernel
theorem d_So_take_2 : decode c_So_take 2 = .ok (.getfield 19, 3) := by decide +kernel
theorem d_So_take_5 : decode c_So_take 5 = .ok (.invokevirtual 22, 3) := by decide +kernel
theorem d_So_take_8 : decode c_So_take 8 = .ok (.iload_n 1, 1) := by decide +kernel
theorem d_So_take_9 : decode c_So_take 9 = .ok (.if_icmp .eq 5, 3) := by decide +kernel
theorem d_So_take_12 : decode c_So_take 12 = .ok (.iconst 0, 1) := by decide +kernel
theorem d_So_take_13 : decode c_So_take 13 = .ok (.ireturn, 1) := by decide +kernel
theorem d_So_take_14 : decode c_So_take 14 = .ok (.aload_n 0, 1) := by decide +kernel
theorem d_So_take_15 : decode c_So_take 15 = .ok (.dup, 1) := by decide +kernel
theorem d_So_take_16 : decode c_So_take 16 = .ok (.getfield 19, 3) := by decide +kernel
theorem d_So_take_19 : decode c_So_take 19 = .ok (.iconst 1, 1) := by decide +kernel
theorem d_So_take_20 : decode c_So_take 20 = .ok (.iadd, 1) := by decide +kernel
theorem d_So_take_21 : decode c_So_take 21 = .ok (.putfield 19, 3) := by decide +kernel
theorem d_So_take_24 : decode c_So_take 24 = .ok (.iconst 1, 1) := by decide +kernel
theorem d_So_take_25 : decode c_So_take 25 = .ok (.ireturn, 1) := by decide +kernel
theorem d_So_rowEnd_0 : decode c_So_rowEnd 0 = .ok (.aload_n 0, 1) := by decide +kernel
theorem d_So_rowEnd_1 : decode c_So_rowEnd 1 = .ok (.getfield 19, 3) := by decide +kernel
theorem d_So_rowEnd_4 : decode c_So_rowEnd 4 = .ok (.istore_n 1, 1) := by decide +kernel
theorem d_So_rowEnd_5 : decode c_So_rowEnd 5 = .ok (.iload_n 1, 1) := by decide +kernel
theorem d_So_rowEnd_6 : decode c_So_rowEnd 6 = .ok (.aload_n 0, 1) := by decide +kernel
theorem d_So_rowEnd_7 : decode c_So_rowEnd 7 = .ok (.getfield 15, 3) := by decide +kernel
theorem d_So_rowEnd_10 : decode c_So_rowEnd 10 = .ok (.if_icmp .ge 20, 3) := by decide +kernel
theorem d_So_rowEnd_13 : decode c_So_rowEnd 13 = .ok (.aload_n 0, 1) := by decide +kernel
theorem d_So_rowEnd_14 : decode c_So_rowEnd 14 = .ok (.iload_n 1, 1) := by decide +kernel
theorem d_So_rowEnd_15 : decode c_So_rowEnd 15 = .ok (.invokevirtual 22, 3) := by decide +kernel
theorem d_So_rowEnd_18 : decode c_So_rowEnd 18 = .ok (.invokestatic 26, 3) := by decide +kernel
theorem d_So_rowEnd_21 : decode c_So_rowEnd 21 = .ok (.ifCond .eq 9, 3) := by decide +kernel
theorem d_So_rowEnd_24 : decode c_So_rowEnd 24 = .ok (.iinc 1 1, 3) := by decide +kernel
theorem d_So_rowEnd_27 : decode c_So_rowEnd 27 = .ok (.goto (-22), 3) := by decide +kernel
theorem d_So_rowEnd_30 : decode c_So_rowEnd 30 = .ok (.iload_n 1, 1) := by decide +kernel
theorem d_So_rowEnd_31 : decode c_So_rowEnd 31 = .ok (.ireturn, 1) := by decide +kernel
theorem d_So_takeValue_0 : decode c_So_takeValue 0 = .ok (.iconst 0, 1) := by decide +kernel
theorem d_So_takeValue_1 : decode c_So_takeValue 1 = .ok (.istore_n 1, 1) := by decide +kernel
theorem d_So_takeValue_2 : decode c_So_takeValue 2 = .ok (.iconst 0, 1) := by decide +kernel
theorem d_So_takeValue_3 : decode c_So_takeValue 3 = .ok (.istore_n 2, 1) := by decide +kernel
theorem d_So_takeValue_4 : decode c_So_takeValue 4 = .ok (.iload_n 2, 1) := by decide +kernel
theorem d_So_takeValue_5 : decode c_So_takeValue 5 = .ok (.iconst 5, 1) := by decide +kernel
theorem d_So_takeValue_6 : decode c_So_takeValue 6 = .ok (.if_icmp .ge 50, 3) := by decide +kernel
theorem d_So_takeValue_9 : decode c_So_takeValue 9 = .ok (.aload_n 0, 1) := by decide +kernel
theorem d_So_takeValue_10 : decode c_So_takeValue 10 = .ok (.aload_n 0, 1) := by decide +kernel
theorem d_So_takeValue_11 : decode c_So_takeValue 11 = .ok (.getfield 19, 3) := by decide +kernel
theorem d_So_takeValue_14 : decode c_So_takeValue 14 = .ok (.invokevirtual 22, 3) := by decide +kernel
theorem d_So_takeValue_17 : decode c_So_takeValue 17 = .ok (.invokestatic 30, 3) := by decide +kernel
theorem d_So_takeValue_20 : decode c_So_takeValue 20 = .ok (.ifCond .eq 36, 3) := by decide +kernel
theorem d_So_takeValue_23 : decode c_So_takeValue 23 = .ok (.iload_n 1, 1) := by decide +kernel
theorem d_So_takeValue_24 : decode c_So_takeValue 24 = .ok (.bipush 10, 2) := by decide +kernel
theorem d_So_takeValue_26 : decode c_So_takeValue 26 = .ok (.imul, 1) := by decide +kernel
theorem d_So_takeValue_27 : decode c_So_takeValue 27 = .ok (.aload_n 0, 1) := by decide +kernel
theorem d_So_takeValue_28 : decode c_So_takeValue 28 = .ok (.aload_n 0, 1) := by decide +kernel
theorem d_So_takeValue_29 : decode c_So_takeValue 29 = .ok (.getfield 19, 3) := by decide +kernel
theorem d_So_takeValue_32 : decode c_So_takeValue 32 = .ok (.invokevirtual 22, 3) := by decide +kernel
theorem d_So_takeValue_35 : decode c_So_takeValue 35 = .ok (.iadd, 1) := by decide +kernel
theorem d_So_takeValue_36 : decode c_So_takeValue 36 = .ok (.bipush 48, 2) := by decide +kernel
theorem d_So_takeValue_38 : decode c_So_takeValue 38 = .ok (.isub, 1) := by decide +kernel
theorem d_So_takeValue_39 : decode c_So_takeValue 39 = .ok (.istore_n 1, 1) := by decide +kernel
theorem d_So_takeValue_40 : decode c_So_takeValue 40 = .ok (.aload_n 0, 1) := by decide +kernel
theorem d_So_takeValue_41 : decode c_So_takeValue 41 = .ok (.dup, 1) := by decide +kernel
theorem d_So_takeValue_42 : decode c_So_takeValue 42 = .ok (.getfield 19, 3) := by decide +kernel
theorem d_So_takeValue_45 : decode c_So_takeValue 45 = .ok (.iconst 1, 1) := by decide +kernel
theorem d_So_takeValue_46 : decode c_So_takeValue 46 = .ok (.iadd, 1) := by decide +kernel
theorem d_So_takeValue_47 : decode c_So_takeValue 47 = .ok (.putfield 19, 3) := by decide +kernel
theorem d_So_takeValue_50 : decode c_So_takeValue 50 = .ok (.iinc 2 1, 3) := by decide +kernel
theorem d_So_takeValue_53 : decode c_So_takeValue 53 = .ok (.goto (-49), 3) := by decide +kernel
theorem d_So_takeValue_56 : decode c_So_takeValue 56 = .ok (.iload_n 2, 1) := by decide +kernel
theorem d_So_takeValue_57 : decode c_So_takeValue 57 = .ok (.ifCond .eq 17, 3) := by decide +kernel
theorem d_So_takeValue_60 : decode c_So_takeValue 60 = .ok (.aload_n 0, 1) := by decide +kernel
theorem d_So_takeValue_61 : decode c_So_takeValue 61 = .ok (.aload_n 0, 1) := by decide +kernel
theorem d_So_takeValue_62 : decode c_So_takeValue 62 = .ok (.getfield 19, 3) := by decide +kernel
theorem d_So_takeValue_65 : decode c_So_takeValue 65 = .ok (.invokevirtual 22, 3) := by decide +kernel
theorem d_So_takeValue_68 : decode c_So_takeValue 68 = .ok (.invokestatic 30, 3) := by decide +kernel
theorem d_So_takeValue_71 : decode c_So_takeValue 71 = .ok (.ifCond .eq 7, 3) := by decide +kernel
theorem d_So_takeValue_74 : decode c_So_takeValue 74 = .ok (.iconst (-1), 1) := by decide +kernel
theorem d_So_takeValue_75 : decode c_So_takeValue 75 = .ok (.goto 4, 3) := by decide +kernel
theorem d_So_takeValue_78 : decode c_So_takeValue 78 = .ok (.iload_n 1, 1) := by decide +kernel
theorem d_So_takeValue_79 : decode c_So_takeValue 79 = .ok (.ireturn, 1) := by decide +kernel
theorem d_So_joiningSort_0 : decode c_So_joiningSort 0 = .ok (.aload_n 0, 1) := by decide +kernel
theorem d_So_joiningSort_1 : decode c_So_joiningSort 1 = .ok (.ldc 33, 2) := by decide +kernel
theorem d_So_joiningSort_3 : decode c_So_joiningSort 3 = .ok (.iload_n 1, 1) := by decide +kernel
theorem d_So_joiningSort_4 : decode c_So_joiningSort 4 = .ok (.invokevirtual 35, 3) := by decide +kernel
theorem d_So_joiningSort_7 : decode c_So_joiningSort 7 = .ok (.ifCond .eq 5, 3) := by decide +kernel
theorem d_So_joiningSort_10 : decode c_So_joiningSort 10 = .ok (.iconst 3, 1) := by decide +kernel
theorem d_So_joiningSort_11 : decode c_So_joiningSort 11 = .ok (.ireturn, 1) := by decide +kernel
theorem d_So_joiningSort_12 : decode c_So_joiningSort 12 = .ok (.aload_n 0, 1) := by decide +kernel
theorem d_So_joiningSort_13 : decode c_So_joiningSort 13 = .ok (.ldc 39, 2) := by decide +kernel
theorem d_So_joiningSort_15 : decode c_So_joiningSort 15 = .ok (.iload_n 1, 1) := by decide +kernel
theorem d_So_joiningSort_16 : decode c_So_joiningSort 16 = .ok (.invokevirtual 35, 3) := by decide +kernel
theorem d_So_joiningSort_19 : decode c_So_joiningSort 19 = .ok (.ifCond .eq 5, 3) := by decide +kernel
theorem d_So_joiningSort_22 : decode c_So_joiningSort 22 = .ok (.iconst 4, 1) := by decide +kernel
theorem d_So_joiningSort_23 : decode c_So_joiningSort 23 = .ok (.ireturn, 1) := by decide +kernel
theorem d_So_joiningSort_24 : decode c_So_joiningSort 24 = .ok (.aload_n 0, 1) := by decide +kernel
theorem d_So_joiningSort_25 : decode c_So_joiningSort 25 = .ok (.ldc 41, 2) := by decide +kernel
theorem d_So_joiningSort_27 : decode c_So_joiningSort 27 = .ok (.iload_n 1, 1) := by decide +kernel
theorem d_So_joiningSort_28 : decode c_So_joiningSort 28 = .ok (.invokevirtual 35, 3) := by decide +kernel
theorem d_So_joiningSort_31 : decode c_So_joiningSort 31 = .ok (.ifCond .eq 7, 3) := by decide +kernel
theorem d_So_joiningSort_34 : decode c_So_joiningSort 34 = .ok (.iconst 5, 1) := by decide +kernel
theorem d_So_joiningSort_35 : decode c_So_joiningSort 35 = .ok (.goto 4, 3) := by decide +kernel
theorem d_So_joiningSort_38 : decode c_So_joiningSort 38 = .ok (.iconst (-1), 1) := by decide +kernel
theorem d_So_joiningSort_39 : decode c_So_joiningSort 39 = .ok (.ireturn, 1) := by decide +kernel
theorem d_So_spells_0 : decode c_So_spells 0 = .ok (.iload_n 2, 1) := by decide +kernel
theorem d_So_spells_1 : decode c_So_spells 1 = .ok (.aload_n 0, 1) := by decide +kernel
theorem d_So_spells_2 : decode c_So_spells 2 = .ok (.getfield 19, 3) := by decide +kernel
theorem d_So_spells_5 : decode c_So_spells 5 = .ok (.isub, 1) := by decide +kernel
theorem d_So_spells_6 : decode c_So_spells 6 = .ok (.aload_n 1, 1) := by decide +kernel
theorem d_So_spells_7 : decode c_So_spells 7 = .ok (.invokevirtual 43, 3) := by decide +kernel
theorem d_So_spells_10 : decode c_So_spells 10 = .ok (.if_icmp .eq 5, 3) := by decide +kernel
theorem d_So_spells_13 : decode c_So_spells 13 = .ok (.iconst 0, 1) := by decide +kernel
theorem d_So_spells_14 : decode c_So_spells 14 = .ok (.ireturn, 1) := by decide +kernel
theorem d_So_spells_15 : decode c_So_spells 15 = .ok (.iconst 0, 1) := by decide +kernel
theorem d_So_spells_16 : decode c_So_spells 16 = .ok (.istore_n 3, 1) := by decide +kernel
theorem d_So_spells_17 : decode c_So_spells 17 = .ok (.iload_n 3, 1) := by decide +kernel
theorem d_So_spells_18 : decode c_So_spells 18 = .ok (.aload_n 1, 1) := by decide +kernel
theorem d_So_spells_19 : decode c_So_spells 19 = .ok (.invokevirtual 43, 3) := by decide +kernel
theorem d_So_spells_22 : decode c_So_spells 22 = .ok (.if_icmp .ge 29, 3) := by decide +kernel
theorem d_So_spells_25 : decode c_So_spells 25 = .ok (.aload_n 0, 1) := by decide +kernel
theorem d_So_spells_26 : decode c_So_spells 26 = .ok (.aload_n 0, 1) := by decide +kernel
theorem d_So_spells_27 : decode c_So_spells 27 = .ok (.getfield 19, 3) := by decide +kernel
theorem d_So_spells_30 : decode c_So_spells 30 = .ok (.iload_n 3, 1) := by decide +kernel
theorem d_So_spells_31 : decode c_So_spells 31 = .ok (.iadd, 1) := by decide +kernel
theorem d_So_spells_32 : decode c_So_spells 32 = .ok (.invokevirtual 22, 3) := by decide +kernel
theorem d_So_spells_35 : decode c_So_spells 35 = .ok (.aload_n 1, 1) := by decide +kernel
theorem d_So_spells_36 : decode c_So_spells 36 = .ok (.iload_n 3, 1) := by decide +kernel
theorem d_So_spells_37 : decode c_So_spells 37 = .ok (.invokevirtual 48, 3) := by decide +kernel
theorem d_So_spells_40 : decode c_So_spells 40 = .ok (.if_icmp .eq 5, 3) := by decide +kernel
theorem d_So_spells_43 : decode c_So_spells 43 = .ok (.iconst 0, 1) := by decide +kernel
theorem d_So_spells_44 : decode c_So_spells 44 = .ok (.ireturn, 1) := by decide +kernel
theorem d_So_spells_45 : decode c_So_spells 45 = .ok (.iinc 3 1, 3) := by decide +kernel
theorem d_So_spells_48 : decode c_So_spells 48 = .ok (.goto (-31), 3) := by decide +kernel
theorem d_So_spells_51 : decode c_So_spells 51 = .ok (.iconst 1, 1) := by decide +kernel
theorem d_So_spells_52 : decode c_So_spells 52 = .ok (.ireturn, 1) := by decide +kernel
theorem d_So_isSmallLetter_0 : decode c_So_isSmallLetter 0 = .ok (.iload_n 0, 1) := by decide +kernel
theorem d_So_isSmallLetter_1 : decode c_So_isSmallLetter 1 = .ok (.bipush 97, 2) := by decide +kernel
theorem d_So_isSmallLetter_3 : decode c_So_isSmallLetter 3 = .ok (.if_icmp .lt 13, 3) := by decide +kernel
theorem d_So_isSmallLetter_6 : decode c_So_isSmallLetter 6 = .ok (.iload_n 0, 1) := by decide +kernel
theorem d_So_isSmallLetter_7 : decode c_So_isSmallLetter 7 = .ok (.bipush 122, 2) := by decide +kernel
theorem d_So_isSmallLetter_9 : decode c_So_isSmallLetter 9 = .ok (.if_icmp .gt 7, 3) := by decide +kernel
theorem d_So_isSmallLetter_12 : decode c_So_isSmallLetter 12 = .ok (.iconst 1, 1) := by decide +kernel
theorem d_So_isSmallLetter_13 : decode c_So_isSmallLetter 13 = .ok (.goto 4, 3) := by decide +kernel
theorem d_So_isSmallLetter_16 : decode c_So_isSmallLetter 16 = .ok (.iconst 0, 1) := by decide +kernel
theorem d_So_isSmallLetter_17 : decode c_So_isSmallLetter 17 = .ok (.ireturn, 1) := by decide +kernel
theorem d_So_isDigit_0 : decode c_So_isDigit 0 = .ok (.iload_n 0, 1) := by decide +kernel
theorem d_So_isDigit_1 : decode c_So_isDigit 1 = .ok (.bipush 48, 2) := by decide +kernel
theorem d_So_isDigit_3 : decode c_So_isDigit 3 = .ok (.if_icmp .lt 13, 3) := by decide +kernel
theorem d_So_isDigit_6 : decode c_So_isDigit 6 = .ok (.iload_n 0, 1) := by decide +kernel
theorem d_So_isDigit_7 : decode c_So_isDigit 7 = .ok (.bipush 57, 2) := by decide +kernel
theorem d_So_isDigit_9 : decode c_So_isDigit 9 = .ok (.if_icmp .gt 7, 3) := by decide +kernel
theorem d_So_isDigit_12 : decode c_So_isDigit 12 = .ok (.iconst 1, 1) := by decide +kernel
theorem d_So_isDigit_13 : decode c_So_isDigit 13 = .ok (.goto 4, 3) := by decide +kernel
theorem d_So_isDigit_16 : decode c_So_isDigit 16 = .ok (.iconst 0, 1) := by decide +kernel
theorem d_So_isDigit_17 : decode c_So_isDigit 17 = .ok (.ireturn, 1) := by decide +kernel
theorem d_Tr_init_0 : decode c_Tr_init 0 = .ok (.aload_n 0, 1) := by decide +kernel
theorem d_Tr_init_1 : decode c_Tr_init 1 = .ok (.invokespecial 3, 3) := by decide +kernel
theorem d_Tr_init_4 : decode c_Tr_init 4 = .ok (.aload_n 0, 1) := by decide +kernel
theorem d_Tr_init_5 : decode c_Tr_init 5 = .ok (.bipush 40, 2) := by decide +kernel
theorem d_Tr_init_7 : decode c_Tr_init 7 = .ok (.newarray .int, 2) := by decide +kernel
theorem d_Tr_init_9 : decode c_Tr_init 9 = .ok (.putfield 9, 3) := by decide +kernel
theorem d_Tr_init_12 : decode c_Tr_init 12 = .ok (.aload_n 0, 1) := by decide +kernel
theorem d_Tr_init_13 : decode c_Tr_init 13 = .ok (.bipush 40, 2) := by decide +kernel
theorem d_Tr_init_15 : decode c_Tr_init 15 = .ok (.newarray .int, 2) := by decide +kernel
theorem d_Tr_init_17 : decode c_Tr_init 17 = .ok (.putfield 15, 3) := by decide +kernel
theorem d_Tr_init_20 : decode c_Tr_init 20 = .ok (.aload_n 0, 1) := by decide +kernel
theorem d_Tr_init_21 : decode c_Tr_init 21 = .ok (.bipush 40, 2) := by decide +kernel
theorem d_Tr_init_23 : decode c_Tr_init 23 = .ok (.newarray .int, 2) := by decide +kernel
theorem d_Tr_init_25 : decode c_Tr_init 25 = .ok (.putfield 18, 3) := by decide +kernel
theorem d_Tr_init_28 : decode c_Tr_init 28 = .ok (.aload_n 0, 1) := by decide +kernel
theorem d_Tr_init_29 : decode c_Tr_init 29 = .ok (.bipush 40, 2) := by decide +kernel
theorem d_Tr_init_31 : decode c_Tr_init 31 = .ok (.newarray .int, 2) := by decide +kernel
theorem d_Tr_init_33 : decode c_Tr_init 33 = .ok (.putfield 21, 3) := by decide +kernel
theorem d_Tr_init_36 : decode c_Tr_init 36 = .ok (.aload_n 0, 1) := by decide +kernel
theorem d_Tr_init_37 : decode c_Tr_init 37 = .ok (.iconst 0, 1) := by decide +kernel
theorem d_Tr_init_38 : decode c_Tr_init 38 = .ok (.putfield 24, 3) := by decide +kernel
theorem d_Tr_init_41 : decode c_Tr_init 41 = .ok (.return_, 1) := by decide +kernel
theorem d_Tr_clear_0 : decode c_Tr_clear 0 = .ok (.aload_n 0, 1) := by decide +kernel
theorem d_Tr_clear_1 : decode c_Tr_clear 1 = .ok (.iconst 0, 1) := by decide +kernel
theorem d_Tr_clear_2 : decode c_Tr_clear 2 = .ok (.putfield 24, 3) := by decide +kernel
theorem d_Tr_clear_5 : decode c_Tr_clear 5 = .ok (.return_, 1) := by decide +kernel
theorem d_Tr_size_0 : decode c_Tr_size 0 = .ok (.aload_n 0, 1) := by decide +kernel
theorem d_Tr_size_1 : decode c_Tr_size 1 = .ok (.getfield 24, 3) := by decide +kernel
theorem d_Tr_size_4 : decode c_Tr_size 4 = .ok (.ireturn, 1) := by decide +kernel
theorem d_Tr_isFull_0 : decode c_Tr_isFull 0 = .ok (.aload_n 0, 1) := by decide +kernel
theorem d_Tr_isFull_1 : decode c_Tr_isFull 1 = .ok (.getfield 24, 3) := by decide +kernel
theorem d_Tr_isFull_4 : decode c_Tr_isFull 4 = .ok (.ifCond .lt 12, 3) := by decide +kernel
theorem d_Tr_isFull_7 : decode c_Tr_isFull 7 = .ok (.aload_n 0, 1) := by decide +kernel
theorem d_Tr_isFull_8 : decode c_Tr_isFull 8 = .ok (.getfield 24, 3) := by decide +kernel
theorem d_Tr_isFull_11 : decode c_Tr_isFull 11 = .ok (.bipush 40, 2) := by decide +kernel
theorem d_Tr_isFull_13 : decode c_Tr_isFull 13 = .ok (.if_icmp .lt 7, 3) := by decide +kernel
theorem d_Tr_isFull_16 : decode c_Tr_isFull 16 = .ok (.iconst 1, 1) := by decide +kernel
theorem d_Tr_isFull_17 : decode c_Tr_isFull 17 = .ok (.goto 4, 3) := by decide +kernel
theorem d_Tr_isFull_20 : decode c_Tr_isFull 20 = .ok (.iconst 0, 1) := by decide +kernel
theorem d_Tr_isFull_21 : decode c_Tr_isFull 21 = .ok (.ireturn, 1) := by decide +kernel
theorem d_Tr_has_0 : decode c_Tr_has 0 = .ok (.iload_n 1, 1) := by decide +kernel
theorem d_Tr_has_1 : decode c_Tr_has 1 = .ok (.ifCond .lt 21, 3) := by decide +kernel
theorem d_Tr_has_4 : decode c_Tr_has 4 = .ok (.iload_n 1, 1) := by decide +kernel
theorem d_Tr_has_5 : decode c_Tr_has 5 = .ok (.aload_n 0, 1) := by decide +kernel
theorem d_Tr_has_6 : decode c_Tr_has 6 = .ok (.getfield 24, 3) := by decide +kernel
theorem d_Tr_has_9 : decode c_Tr_has 9 = .ok (.if_icmp .ge 13, 3) := by decide +kernel
theorem d_Tr_has_12 : decode c_Tr_has 12 = .ok (.iload_n 1, 1) := by decide +kernel
theorem d_Tr_has_13 : decode c_Tr_has 13 = .ok (.bipush 40, 2) := by decide +kernel
theorem d_Tr_has_15 : decode c_Tr_has 15 = .ok (.if_icmp .ge 7, 3) := by decide +kernel
theorem d_Tr_has_18 : decode c_Tr_has 18 = .ok (.iconst 1, 1) := by decide +kernel
theorem d_Tr_has_19 : decode c_Tr_has 19 = .ok (.goto 4, 3) := by decide +kernel
theorem d_Tr_has_22 : decode c_Tr_has 22 = .ok (.iconst 0, 1) := by decide +kernel
theorem d_Tr_has_23 : decode c_Tr_has 23 = .ok (.ireturn, 1) := by decide +kernel
theorem d_Tr_sortAt_0 : decode c_Tr_sortAt 0 = .ok (.aload_n 0, 1) := by decide +kernel
theorem d_Tr_sortAt_1 : decode c_Tr_sortAt 1 = .ok (.iload_n 1, 1) := by decide +kernel
theorem d_Tr_sortAt_2 : decode c_Tr_sortAt 2 = .ok (.invokevirtual 28, 3) := by decide +kernel
theorem d_Tr_sortAt_5 : decode c_Tr_sortAt 5 = .ok (.ifCond .eq 12, 3) := by decide +kernel
theorem d_Tr_sortAt_8 : decode c_Tr_sortAt 8 = .ok (.aload_n 0, 1) := by decide +kernel
theorem d_Tr_sortAt_9 : decode c_Tr_sortAt 9 = .ok (.getfield 9, 3) := by decide +kernel
theorem d_Tr_sortAt_12 : decode c_Tr_sortAt 12 = .ok (.iload_n 1, 1) := by decide +kernel
theorem d_Tr_sortAt_13 : decode c_Tr_sortAt 13 = .ok (.iaload, 1) := by decide +kernel
theorem d_Tr_sortAt_14 : decode c_Tr_sortAt 14 = .ok (.goto 4, 3) := by decide +kernel
theorem d_Tr_sortAt_17 : decode c_Tr_sortAt 17 = .ok (.iconst (-1), 1) := by decide +kernel
theorem d_Tr_sortAt_18 : decode c_Tr_sortAt 18 = .ok (.ireturn, 1) := by decide +kernel
theorem d_Tr_indexAt_0 : decode c_Tr_indexAt 0 = .ok (.aload_n 0, 1) := by decide +kernel
theorem d_Tr_indexAt_1 : decode c_Tr_indexAt 1 = .ok (.iload_n 1, 1) := by decide +kernel
theorem d_Tr_indexAt_2 : decode c_Tr_indexAt 2 = .ok (.invokevirtual 28, 3) := by decide +kernel
theorem d_Tr_indexAt_5 : decode c_Tr_indexAt 5 = .ok (.ifCond .eq 12, 3) := by decide +kernel
theorem d_Tr_indexAt_8 : decode c_Tr_indexAt 8 = .ok (.aload_n 0, 1) := by decide +kernel
theorem d_Tr_indexAt_9 : decode c_Tr_indexAt 9 = .ok (.getfield 15, 3) := by decide +kernel
theorem d_Tr_indexAt_12 : decode c_Tr_indexAt 12 = .ok (.iload_n 1, 1) := by decide +kernel
theorem d_Tr_indexAt_13 : decode c_Tr_indexAt 13 = .ok (.iaload, 1) := by decide +kernel
theorem d_Tr_indexAt_14 : decode c_Tr_indexAt 14 = .ok (.goto 4, 3) := by decide +kernel
theorem d_Tr_indexAt_17 : decode c_Tr_indexAt 17 = .ok (.iconst (-1), 1) := by decide +kernel
theorem d_Tr_indexAt_18 : decode c_Tr_indexAt 18 = .ok (.ireturn, 1) := by decide +kernel
theorem d_Tr_leastAt_0 : decode c_Tr_leastAt 0 = .ok (.aload_n 0, 1) := by decide +kernel
theorem d_Tr_leastAt_1 : decode c_Tr_leastAt 1 = .ok (.iload_n 1, 1) := by decide +kernel
theorem d_Tr_leastAt_2 : decode c_Tr_leastAt 2 = .ok (.invokevirtual 28, 3) := by decide +kernel
theorem d_Tr_leastAt_5 : decode c_Tr_leastAt 5 = .ok (.ifCond .eq 12, 3) := by decide +kernel
theorem d_Tr_leastAt_8 : decode c_Tr_leastAt 8 = .ok (.aload_n 0, 1) := by decide +kernel
theorem d_Tr_leastAt_9 : decode c_Tr_leastAt 9 = .ok (.getfield 18, 3) := by decide +kernel
theorem d_Tr_leastAt_12 : decode c_Tr_leastAt 12 = .ok (.iload_n 1, 1) := by decide +kernel
theorem d_Tr_leastAt_13 : decode c_Tr_leastAt 13 = .ok (.iaload, 1) := by decide +kernel
theorem d_Tr_leastAt_14 : decode c_Tr_leastAt 14 = .ok (.goto 4, 3) := by decide +kernel
theorem d_Tr_leastAt_17 : decode c_Tr_leastAt 17 = .ok (.iconst (-1), 1) := by decide +kernel
theorem d_Tr_leastAt_18 : decode c_Tr_leastAt 18 = .ok (.ireturn, 1) := by decide +kernel
theorem d_Tr_greatestAt_0 : decode c_Tr_greatestAt 0 = .ok (.aload_n 0, 1) := by decide +kernel
theorem d_Tr_greatestAt_1 : decode c_Tr_greatestAt 1 = .ok (.iload_n 1, 1) := by decide +kernel
theorem d_Tr_greatestAt_2 : decode c_Tr_greatestAt 2 = .ok (.invokevirtual 28, 3) := by decide +kernel
theorem d_Tr_greatestAt_5 : decode c_Tr_greatestAt 5 = .ok (.ifCond .eq 12, 3) := by decide +kernel
theorem d_Tr_greatestAt_8 : decode c_Tr_greatestAt 8 = .ok (.aload_n 0, 1) := by decide +kernel
theorem d_Tr_greatestAt_9 : decode c_Tr_greatestAt 9 = .ok (.getfield 21, 3) := by decide +kernel
theorem d_Tr_greatestAt_12 : decode c_Tr_greatestAt 12 = .ok (.iload_n 1, 1) := by decide +kernel
theorem d_Tr_greatestAt_13 : decode c_Tr_greatestAt 13 = .ok (.iaload, 1) := by decide +kernel
theorem d_Tr_greatestAt_14 : decode c_Tr_greatestAt 14 = .ok (.goto 4, 3) := by decide +kernel
theorem d_Tr_greatestAt_17 : decode c_Tr_greatestAt 17 = .ok (.iconst (-1), 1) := by decide +kernel
theorem d_Tr_greatestAt_18 : decode c_Tr_greatestAt 18 = .ok (.ireturn, 1) := by decide +kernel
theorem d_Tr_append_0 : decode c_Tr_append 0 = .ok (.aload_n 0, 1) := by decide +kernel
theorem d_Tr_append_1 : decode c_Tr_append 1 = .ok (.invokevirtual 32, 3) := by decide +kernel
theorem d_Tr_append_4 : decode c_Tr_append 4 = .ok (.ifCond .eq 5, 3) := by decide +kernel
theorem d_Tr_append_7 : decode c_Tr_append 7 = .ok (.iconst 0, 1) := by decide +kernel
theorem d_Tr_append_8 : decode c_Tr_append 8 = .ok (.ireturn, 1) := by decide +kernel
theorem d_Tr_append_9 : decode c_Tr_append 9 = .ok (.aload_n 0, 1) := by decide +kernel
theorem d_Tr_append_10 : decode c_Tr_append 10 = .ok (.dup, 1) := by decide +kernel
theorem d_Tr_append_11 : decode c_Tr_append 11 = .ok (.getfield 24, 3) := by decide +kernel
theorem d_Tr_append_14 : decode c_Tr_append 14 = .ok (.iconst 1, 1) := by decide +kernel
theorem d_Tr_append_15 : decode c_Tr_append 15 = .ok (.iadd, 1) := by decide +kernel
theorem d_Tr_append_16 : decode c_Tr_append 16 = .ok (.putfield 24, 3) := by decide +kernel
theorem d_Tr_append_19 : decode c_Tr_append 19 = .ok (.aload_n 0, 1) := by decide +kernel
theorem d_Tr_append_20 : decode c_Tr_append 20 = .ok (.aload_n 0, 1) := by decide +kernel
theorem d_Tr_append_21 : decode c_Tr_append 21 = .ok (.getfield 24, 3) := by decide +kernel
theorem d_Tr_append_24 : decode c_Tr_append 24 = .ok (.iconst 1, 1) := by decide +kernel
theorem d_Tr_append_25 : decode c_Tr_append 25 = .ok (.isub, 1) := by decide +kernel
theorem d_Tr_append_26 : decode c_Tr_append 26 = .ok (.iload_n 1, 1) := by decide +kernel
theorem d_Tr_append_27 : decode c_Tr_append 27 = .ok (.iload_n 2, 1) := by decide +kernel
theorem d_Tr_append_28 : decode c_Tr_append 28 = .ok (.iload_n 3, 1) := by decide +kernel
theorem d_Tr_append_29 : decode c_Tr_append 29 = .ok (.iload 4, 2) := by decide +kernel
theorem d_Tr_append_31 : decode c_Tr_append 31 = .ok (.invokevirtual 36, 3) := by decide +kernel
theorem d_Tr_append_34 : decode c_Tr_append 34 = .ok (.iconst 1, 1) := by decide +kernel
theorem d_Tr_append_35 : decode c_Tr_append 35 = .ok (.ireturn, 1) := by decide +kernel
theorem d_Tr_insert_0 : decode c_Tr_insert 0 = .ok (.aload_n 0, 1) := by decide +kernel
theorem d_Tr_insert_1 : decode c_Tr_insert 1 = .ok (.invokevirtual 32, 3) := by decide +kernel
theorem d_Tr_insert_4 : decode c_Tr_insert 4 = .ok (.ifCond .ne 7, 3) := by decide +kernel
theorem d_Tr_insert_7 : decode c_Tr_insert 7 = .ok (.iload_n 1, 1) := by decide +kernel
theorem d_Tr_insert_8 : decode c_Tr_insert 8 = .ok (.ifCond .ge 5, 3) := by decide +kernel
theorem d_Tr_insert_11 : decode c_Tr_insert 11 = .ok (.iconst 0, 1) := by decide +kernel
theorem d_Tr_insert_12 : decode c_Tr_insert 12 = .ok (.ireturn, 1) := by decide +kernel
theorem d_Tr_insert_13 : decode c_Tr_insert 13 = .ok (.aload_n 0, 1) := by decide +kernel
theorem d_Tr_insert_14 : decode c_Tr_insert 14 = .ok (.dup, 1) := by decide +kernel
theorem d_Tr_insert_15 : decode c_Tr_insert 15 = .ok (.getfield 24, 3) := by decide +kernel
theorem d_Tr_insert_18 : decode c_Tr_insert 18 = .ok (.iconst 1, 1) := by decide +kernel
theorem d_Tr_insert_19 : decode c_Tr_insert 19 = .ok (.iadd, 1) := by decide +kernel
theorem d_Tr_insert_20 : decode c_Tr_insert 20 = .ok (.putfield 24, 3) := by decide +kernel
theorem d_Tr_insert_23 : decode c_Tr_insert 23 = .ok (.aload_n 0, 1) := by decide +kernel
theorem d_Tr_insert_24 : decode c_Tr_insert 24 = .ok (.getfield 24, 3) := by decide +kernel
theorem d_Tr_insert_27 : decode c_Tr_insert 27 = .ok (.iconst 1, 1) := by decide +kernel
theorem d_Tr_insert_28 : decode c_Tr_insert 28 = .ok (.isub, 1) := by decide +kernel
theorem d_Tr_insert_29 : decode c_Tr_insert 29 = .ok (.istore_n 3, 1) := by decide +kernel
theorem d_Tr_insert_30 : decode c_Tr_insert 30 = .ok (.iload_n 3, 1) := by decide +kernel
theorem d_Tr_insert_31 : decode c_Tr_insert 31 = .ok (.iload_n 1, 1) := by decide +kernel
theorem d_Tr_insert_32 : decode c_Tr_insert 32 = .ok (.if_icmp .le 18, 3) := by decide +kernel
theorem d_Tr_insert_35 : decode c_Tr_insert 35 = .ok (.aload_n 0, 1) := by decide +kernel
theorem d_Tr_insert_36 : decode c_Tr_insert 36 = .ok (.iload_n 3, 1) := by decide +kernel
theorem d_Tr_insert_37 : decode c_Tr_insert 37 = .ok (.aload_n 0, 1) := by decide +kernel
theorem d_Tr_insert_38 : decode c_Tr_insert 38 = .ok (.iload_n 3, 1) := by decide +kernel
theorem d_Tr_insert_39 : decode c_Tr_insert 39 = .ok (.iconst 1, 1) := by decide +kernel
theorem d_Tr_insert_40 : decode c_Tr_insert 40 = .ok (.isub, 1) := by decide +kernel
theorem d_Tr_insert_41 : decode c_Tr_insert 41 = .ok (.invokevirtual 40, 3) := by decide +kernel
theorem d_Tr_insert_44 : decode c_Tr_insert 44 = .ok (.iinc 3 (-1), 3) := by decide +kernel
theorem d_Tr_insert_47 : decode c_Tr_insert 47 = .ok (.goto (-17), 3) := by decide +kernel
theorem d_Tr_insert_50 : decode c_Tr_insert 50 = .ok (.aload_n 0, 1) := by decide +kernel
theorem d_Tr_insert_51 : decode c_Tr_insert 51 = .ok (.iload_n 1, 1) := by decide +kernel
theorem d_Tr_insert_52 : decode c_Tr_insert 52 = .ok (.iload_n 2, 1) := by decide +kernel
theorem d_Tr_insert_53 : decode c_Tr_insert 53 = .ok (.iconst (-1), 1) := by decide +kernel
theorem d_Tr_insert_54 : decode c_Tr_insert 54 = .ok (.iconst (-1), 1) := by decide +kernel
theorem d_Tr_insert_55 : decode c_Tr_insert 55 = .ok (.iconst (-1), 1) := by decide +kernel
theorem d_Tr_insert_56 : decode c_Tr_insert 56 = .ok (.invokevirtual 36, 3) := by decide +kernel
theorem d_Tr_insert_59 : decode c_Tr_insert 59 = .ok (.iconst 1, 1) := by decide +kernel
theorem d_Tr_insert_60 : decode c_Tr_insert 60 = .ok (.ireturn, 1) := by decide +kernel
theorem d_Tr_copyFrom_0 : decode c_Tr_copyFrom 0 = .ok (.aload_n 0, 1) := by decide +kernel
theorem d_Tr_copyFrom_1 : decode c_Tr_copyFrom 1 = .ok (.aload_n 1, 1) := by decide +kernel
theorem d_Tr_copyFrom_2 : decode c_Tr_copyFrom 2 = .ok (.getfield 24, 3) := by decide +kernel
theorem d_Tr_copyFrom_5 : decode c_Tr_copyFrom 5 = .ok (.putfield 24, 3) := by decide +kernel
theorem d_Tr_copyFrom_8 : decode c_Tr_copyFrom 8 = .ok (.iconst 0, 1) := by decide +kernel
theorem d_Tr_copyFrom_9 : decode c_Tr_copyFrom 9 = .ok (.istore_n 2, 1) := by decide +kernel
theorem d_Tr_copyFrom_10 : decode c_Tr_copyFrom 10 = .ok (.iload_n 2, 1) := by decide +kernel
theorem d_Tr_copyFrom_11 : decode c_Tr_copyFrom 11 = .ok (.aload_n 0, 1) := by decide +kernel
theorem d_Tr_copyFrom_12 : decode c_Tr_copyFrom 12 = .ok (.getfield 24, 3) := by decide +kernel
theorem d_Tr_copyFrom_15 : decode c_Tr_copyFrom 15 = .ok (.if_icmp .ge 16, 3) := by decide +kernel
theorem d_Tr_copyFrom_18 : decode c_Tr_copyFrom 18 = .ok (.aload_n 0, 1) := by decide +kernel
theorem d_Tr_copyFrom_19 : decode c_Tr_copyFrom 19 = .ok (.iload_n 2, 1) := by decide +kernel
theorem d_Tr_copyFrom_20 : decode c_Tr_copyFrom 20 = .ok (.aload_n 1, 1) := by decide +kernel
theorem d_Tr_copyFrom_21 : decode c_Tr_copyFrom 21 = .ok (.iload_n 2, 1) := by decide +kernel
theorem d_Tr_copyFrom_22 : decode c_Tr_copyFrom 22 = .ok (.invokevirtual 40, 3) := by decide +kernel
theorem d_Tr_copyFrom_25 : decode c_Tr_copyFrom 25 = .ok (.iinc 2 1, 3) := by decide +kernel
theorem d_Tr_copyFrom_28 : decode c_Tr_copyFrom 28 = .ok (.goto (-18), 3) := by decide +kernel
theorem d_Tr_copyFrom_31 : decode c_Tr_copyFrom 31 = .ok (.return_, 1) := by decide +kernel
theorem d_Tr_isLike_0 : decode c_Tr_isLike 0 = .ok (.aload_n 0, 1) := by decide +kernel
theorem d_Tr_isLike_1 : decode c_Tr_isLike 1 = .ok (.getfield 24, 3) := by decide +kernel
theorem d_Tr_isLike_4 : decode c_Tr_isLike 4 = .ok (.aload_n 1, 1) := by decide +kernel
theorem d_Tr_isLike_5 : decode c_Tr_isLike 5 = .ok (.getfield 24, 3) := by decide +kernel
theorem d_Tr_isLike_8 : decode c_Tr_isLike 8 = .ok (.if_icmp .eq 5, 3) := by decide +kernel
theorem d_Tr_isLike_11 : decode c_Tr_isLike 11 = .ok (.iconst 0, 1) := by decide +kernel
theorem d_Tr_isLike_12 : decode c_Tr_isLike 12 = .ok (.ireturn, 1) := by decide +kernel
theorem d_Tr_isLike_13 : decode c_Tr_isLike 13 = .ok (.iconst 0, 1) := by decide +kernel
theorem d_Tr_isLike_14 : decode c_Tr_isLike 14 = .ok (.istore_n 2, 1) := by decide +kernel
theorem d_Tr_isLike_15 : decode c_Tr_isLike 15 = .ok (.iload_n 2, 1) := by decide +kernel
theorem d_Tr_isLike_16 : decode c_Tr_isLike 16 = .ok (.aload_n 0, 1) := by decide +kernel
theorem d_Tr_isLike_17 : decode c_Tr_isLike 17 = .ok (.getfield 24, 3) := by decide +kernel
theorem d_Tr_isLike_20 : decode c_Tr_isLike 20 = .ok (.if_icmp .ge 20, 3) := by decide +kernel
theorem d_Tr_isLike_23 : decode c_Tr_isLike 23 = .ok (.aload_n 0, 1) := by decide +kernel
theorem d_Tr_isLike_24 : decode c_Tr_isLike 24 = .ok (.aload_n 1, 1) := by decide +kernel
theorem d_Tr_isLike_25 : decode c_Tr_isLike 25 = .ok (.iload_n 2, 1) := by decide +kernel
theorem d_Tr_isLike_26 : decode c_Tr_isLike 26 = .ok (.invokevirtual 44, 3) := by decide +kernel
theorem d_Tr_isLike_29 : decode c_Tr_isLike 29 = .ok (.ifCond .ne 5, 3) := by decide +kernel
theorem d_Tr_isLike_32 : decode c_Tr_isLike 32 = .ok (.iconst 0, 1) := by decide +kernel
theorem d_Tr_isLike_33 : decode c_Tr_isLike 33 = .ok (.ireturn, 1) := by decide +kernel
theorem d_Tr_isLike_34 : decode c_Tr_isLike 34 = .ok (.iinc 2 1, 3) := by decide +kernel
theorem d_Tr_isLike_37 : decode c_Tr_isLike 37 = .ok (.goto (-22), 3) := by decide +kernel
theorem d_Tr_isLike_40 : decode c_Tr_isLike 40 = .ok (.iconst 1, 1) := by decide +kernel
theorem d_Tr_isLike_41 : decode c_Tr_isLike 41 = .ok (.ireturn, 1) := by decide +kernel
theorem d_Tr_isNodeLike_0 : decode c_Tr_isNodeLike 0 = .ok (.aload_n 0, 1) := by decide +kernel
theorem d_Tr_isNodeLike_1 : decode c_Tr_isNodeLike 1 = .ok (.iload_n 2, 1) := by decide +kernel
theorem d_Tr_isNodeLike_2 : decode c_Tr_isNodeLike 2 = .ok (.invokevirtual 48, 3) := by decide +kernel
theorem d_Tr_isNodeLike_5 : decode c_Tr_isNodeLike 5 = .ok (.aload_n 1, 1) := by decide +kernel
theorem d_Tr_isNodeLike_6 : decode c_Tr_isNodeLike 6 = .ok (.iload_n 2, 1) := by decide +kernel
theorem d_Tr_isNodeLike_7 : decode c_Tr_isNodeLike 7 = .ok (.invokevirtual 48, 3) := by decide +kernel
theorem d_Tr_isNodeLike_10 : decode c_Tr_isNodeLike 10 = .ok (.if_icmp .ne 46, 3) := by decide +kernel
theorem d_Tr_isNodeLike_13 : decode c_Tr_isNodeLike 13 = .ok (.aload_n 0, 1) := by decide +kernel
theorem d_Tr_isNodeLike_14 : decode c_Tr_isNodeLike 14 = .ok (.iload_n 2, 1) := by decide +kernel
theorem d_Tr_isNodeLike_15 : decode c_Tr_isNodeLike 15 = .ok (.invokevirtual 52, 3) := by decide +kernel
theorem d_Tr_isNodeLike_18 : decode c_Tr_isNodeLike 18 = .ok (.aload_n 1, 1) := by decide +kernel
theorem d_Tr_isNodeLike_19 : decode c_Tr_isNodeLike 19 = .ok (.iload_n 2, 1) := by decide +kernel
theorem d_Tr_isNodeLike_20 : decode c_Tr_isNodeLike 20 = .ok (.invokevirtual 52, 3) := by decide +kernel
theorem d_Tr_isNodeLike_23 : decode c_Tr_isNodeLike 23 = .ok (.if_icmp .ne 33, 3) := by decide +kernel
theorem d_Tr_isNodeLike_26 : decode c_Tr_isNodeLike 26 = .ok (.aload_n 0, 1) := by decide +kernel
theorem d_Tr_isNodeLike_27 : decode c_Tr_isNodeLike 27 = .ok (.iload_n 2, 1) := by decide +kernel
theorem d_Tr_isNodeLike_28 : decode c_Tr_isNodeLike 28 = .ok (.invokevirtual 55, 3) := by decide +kernel
theorem d_Tr_isNodeLike_31 : decode c_Tr_isNodeLike 31 = .ok (.aload_n 1, 1) := by decide +kernel
theorem d_Tr_isNodeLike_32 : decode c_Tr_isNodeLike 32 = .ok (.iload_n 2, 1) := by decide +kernel
theorem d_Tr_isNodeLike_33 : decode c_Tr_isNodeLike 33 = .ok (.invokevirtual 55, 3) := by decide +kernel
theorem d_Tr_isNodeLike_36 : decode c_Tr_isNodeLike 36 = .ok (.if_icmp .ne 20, 3) := by decide +kernel
theorem d_Tr_isNodeLike_39 : decode c_Tr_isNodeLike 39 = .ok (.aload_n 0, 1) := by decide +kernel
theorem d_Tr_isNodeLike_40 : decode c_Tr_isNodeLike 40 = .ok (.iload_n 2, 1) := by decide +kernel
theorem d_Tr_isNodeLike_41 : decode c_Tr_isNodeLike 41 = .ok (.invokevirtual 58, 3) := by decide +kernel
theorem d_Tr_isNodeLike_44 : decode c_Tr_isNodeLike 44 = .ok (.aload_n 1, 1) := by decide +kernel
theorem d_Tr_isNodeLike_45 : decode c_Tr_isNodeLike 45 = .ok (.iload_n 2, 1) := by decide +kernel
theorem d_Tr_isNodeLike_46 : decode c_Tr_isNodeLike 46 = .ok (.invokevirtual 58, 3) := by decide +kernel
theorem d_Tr_isNodeLike_49 : decode c_Tr_isNodeLike 49 = .ok (.if_icmp .ne 7, 3) := by decide +kernel
theorem d_Tr_isNodeLike_52 : decode c_Tr_isNodeLike 52 = .ok (.iconst 1, 1) := by decide +kernel
theorem d_Tr_isNodeLike_53 : decode c_Tr_isNodeLike 53 = .ok (.goto 4, 3) := by decide +kernel
theorem d_Tr_isNodeLike_56 : decode c_Tr_isNodeLike 56 = .ok (.iconst 0, 1) := by decide +kernel
theorem d_Tr_isNodeLike_57 : decode c_Tr_isNodeLike 57 = .ok (.ireturn, 1) := by decide +kernel
theorem d_Tr_copyNode_0 : decode c_Tr_copyNode 0 = .ok (.aload_n 0, 1) := by decide +kernel
theorem d_Tr_copyNode_1 : decode c_Tr_copyNode 1 = .ok (.iload_n 1, 1) := by decide +kernel
theorem d_Tr_copyNode_2 : decode c_Tr_copyNode 2 = .ok (.aload_n 2, 1) := by decide +kernel
theorem d_Tr_copyNode_3 : decode c_Tr_copyNode 3 = .ok (.iload_n 3, 1) := by decide +kernel
theorem d_Tr_copyNode_4 : decode c_Tr_copyNode 4 = .ok (.invokevirtual 48, 3) := by decide +kernel
theorem d_Tr_copyNode_7 : decode c_Tr_copyNode 7 = .ok (.aload_n 2, 1) := by decide +kernel
theorem d_Tr_copyNode_8 : decode c_Tr_copyNode 8 = .ok (.iload_n 3, 1) := by decide +kernel
theorem d_Tr_copyNode_9 : decode c_Tr_copyNode 9 = .ok (.invokevirtual 52, 3) := by decide +kernel
theorem d_Tr_copyNode_12 : decode c_Tr_copyNode 12 = .ok (.aload_n 2, 1) := by decide +kernel
theorem d_Tr_copyNode_13 : decode c_Tr_copyNode 13 = .ok (.iload_n 3, 1) := by decide +kernel
theorem d_Tr_copyNode_14 : decode c_Tr_copyNode 14 = .ok (.invokevirtual 55, 3) := by decide +kernel
theorem d_Tr_copyNode_17 : decode c_Tr_copyNode 17 = .ok (.aload_n 2, 1) := by decide +kernel
theorem d_Tr_copyNode_18 : decode c_Tr_copyNode 18 = .ok (.iload_n 3, 1) := by decide +kernel
theorem d_Tr_copyNode_19 : decode c_Tr_copyNode 19 = .ok (.invokevirtual 58, 3) := by decide +kernel
theorem d_Tr_copyNode_22 : decode c_Tr_copyNode 22 = .ok (.invokevirtual 36, 3) := by decide +kernel
theorem d_Tr_copyNode_25 : decode c_Tr_copyNode 25 = .ok (.return_, 1) := by decide +kernel
theorem d_Tr_put_0 : decode c_Tr_put 0 = .ok (.aload_n 0, 1) := by decide +kernel
theorem d_Tr_put_1 : decode c_Tr_put 1 = .ok (.iload_n 1, 1) := by decide +kernel
theorem d_Tr_put_2 : decode c_Tr_put 2 = .ok (.invokevirtual 28, 3) := by decide +kernel
theorem d_Tr_put_5 : decode c_Tr_put 5 = .ok (.ifCond .eq 33, 3) := by decide +kernel
theorem d_Tr_put_8 : decode c_Tr_put 8 = .ok (.aload_n 0, 1) := by decide +kernel
theorem d_Tr_put_9 : decode c_Tr_put 9 = .ok (.getfield 9, 3) := by decide +kernel
theorem d_Tr_put_12 : decode c_Tr_put 12 = .ok (.iload_n 1, 1) := by decide +kernel
theorem d_Tr_put_13 : decode c_Tr_put 13 = .ok (.iload_n 2, 1) := by decide +kernel
theorem d_Tr_put_14 : decode c_Tr_put 14 = .ok (.iastore, 1) := by decide +kernel
theorem d_Tr_put_15 : decode c_Tr_put 15 = .ok (.aload_n 0, 1) := by decide +kernel
theorem d_Tr_put_16 : decode c_Tr_put 16 = .ok (.getfield 15, 3) := by decide +kernel
theorem d_Tr_put_19 : decode c_Tr_put 19 = .ok (.iload_n 1, 1) := by decide +kernel
theorem d_Tr_put_20 : decode c_Tr_put 20 = .ok (.iload_n 3, 1) := by decide +kernel
theorem d_Tr_put_21 : decode c_Tr_put 21 = .ok (.iastore, 1) := by decide +kernel
theorem d_Tr_put_22 : decode c_Tr_put 22 = .ok (.aload_n 0, 1) := by decide +kernel
theorem d_Tr_put_23 : decode c_Tr_put 23 = .ok (.getfield 18, 3) := by decide +kernel
theorem d_Tr_put_26 : decode c_Tr_put 26 = .ok (.iload_n 1, 1) := by decide +kernel
theorem d_Tr_put_27 : decode c_Tr_put 27 = .ok (.iload 4, 2) := by decide +kernel
theorem d_Tr_put_29 : decode c_Tr_put 29 = .ok (.iastore, 1) := by decide +kernel
theorem d_Tr_put_30 : decode c_Tr_put 30 = .ok (.aload_n 0, 1) := by decide +kernel
theorem d_Tr_put_31 : decode c_Tr_put 31 = .ok (.getfield 21, 3) := by decide +kernel
theorem d_Tr_put_34 : decode c_Tr_put 34 = .ok (.iload_n 1, 1) := by decide +kernel
theorem d_Tr_put_35 : decode c_Tr_put 35 = .ok (.iload 5, 2) := by decide +kernel
theorem d_Tr_put_37 : decode c_Tr_put 37 = .ok (.iastore, 1) := by decide +kernel
theorem d_Tr_put_38 : decode c_Tr_put 38 = .ok (.return_, 1) := by decide +kernel
theorem d_Un_init_0 : decode c_Un_init 0 = .ok (.aload_n 0, 1) := by decide +kernel
theorem d_Un_init_1 : decode c_Un_init 1 = .ok (.invokespecial 3, 3) := by decide +kernel
theorem d_Un_init_4 : decode c_Un_init 4 = .ok (.aload_n 0, 1) := by decide +kernel
theorem d_Un_init_5 : decode c_Un_init 5 = .ok (.sipush 200, 3) := by decide +kernel
theorem d_Un_init_8 : decode c_Un_init 8 = .ok (.newarray .int, 2) := by decide +kernel
theorem d_Un_init_10 : decode c_Un_init 10 = .ok (.putfield 9, 3) := by decide +kernel
theorem d_Un_init_13 : decode c_Un_init 13 = .ok (.aload_n 0, 1) := by decide +kernel
theorem d_Un_init_14 : decode c_Un_init 14 = .ok (.iconst 0, 1) := by decide +kernel
theorem d_Un_init_15 : decode c_Un_init 15 = .ok (.putfield 15, 3) := by decide +kernel
theorem d_Un_init_18 : decode c_Un_init 18 = .ok (.return_, 1) := by decide +kernel
theorem d_Un_forget_0 : decode c_Un_forget 0 = .ok (.aload_n 0, 1) := by decide +kernel
theorem d_Un_forget_1 : decode c_Un_forget 1 = .ok (.iconst 0, 1) := by decide +kernel
theorem d_Un_forget_2 : decode c_Un_forget 2 = .ok (.putfield 15, 3) := by decide +kernel
theorem d_Un_forget_5 : decode c_Un_forget 5 = .ok (.return_, 1) := by decide +kernel
theorem d_Un_keep_0 : decode c_Un_keep 0 = .ok (.aload_n 1, 1) := by decide +kernel
theorem d_Un_keep_1 : decode c_Un_keep 1 = .ok (.invokevirtual 19, 3) := by decide +kernel
theorem d_Un_keep_4 : decode c_Un_keep 4 = .ok (.istore_n 3, 1) := by decide +kernel
theorem d_Un_keep_5 : decode c_Un_keep 5 = .ok (.aload_n 0, 1) := by decide +kernel
theorem d_Un_keep_6 : decode c_Un_keep 6 = .ok (.iconst 0, 1) := by decide +kernel
theorem d_Un_keep_7 : decode c_Un_keep 7 = .ok (.putfield 15, 3) := by decide +kernel
theorem d_Un_keep_10 : decode c_Un_keep 10 = .ok (.iload_n 3, 1) := by decide +kernel
theorem d_Un_keep_11 : decode c_Un_keep 11 = .ok (.istore 4, 2) := by decide +kernel
theorem d_Un_keep_13 : decode c_Un_keep 13 = .ok (.iload 4, 2) := by decide +kernel
theorem d_Un_keep_15 : decode c_Un_keep 15 = .ok (.iload_n 2, 1) := by decide +kernel
theorem d_Un_keep_16 : decode c_Un_keep 16 = .ok (.if_icmp .ge 44, 3) := by decide +kernel
theorem d_Un_keep_19 : decode c_Un_keep 19 = .ok (.aload_n 0, 1) := by decide +kernel
theorem d_Un_keep_20 : decode c_Un_keep 20 = .ok (.getfield 15, 3) := by decide +kernel
theorem d_Un_keep_23 : decode c_Un_keep 23 = .ok (.sipush 200, 3) := by decide +kernel
theorem d_Un_keep_26 : decode c_Un_keep 26 = .ok (.if_icmp .ge 34, 3) := by decide +kernel
theorem d_Un_keep_29 : decode c_Un_keep 29 = .ok (.aload_n 0, 1) := by decide +kernel
theorem d_Un_keep_30 : decode c_Un_keep 30 = .ok (.getfield 9, 3) := by decide +kernel
theorem d_Un_keep_33 : decode c_Un_keep 33 = .ok (.aload_n 0, 1) := by decide +kernel
theorem d_Un_keep_34 : decode c_Un_keep 34 = .ok (.getfield 15, 3) := by decide +kernel
theorem d_Un_keep_37 : decode c_Un_keep 37 = .ok (.aload_n 1, 1) := by decide +kernel
theorem d_Un_keep_38 : decode c_Un_keep 38 = .ok (.iload 4, 2) := by decide +kernel
theorem d_Un_keep_40 : decode c_Un_keep 40 = .ok (.invokevirtual 25, 3) := by decide +kernel
theorem d_Un_keep_43 : decode c_Un_keep 43 = .ok (.iastore, 1) := by decide +kernel
theorem d_Un_keep_44 : decode c_Un_keep 44 = .ok (.aload_n 0, 1) := by decide +kernel
theorem d_Un_keep_45 : decode c_Un_keep 45 = .ok (.dup, 1) := by decide +kernel
theorem d_Un_keep_46 : decode c_Un_keep 46 = .ok (.getfield 15, 3) := by decide +kernel
theorem d_Un_keep_49 : decode c_Un_keep 49 = .ok (.iconst 1, 1) := by decide +kernel
theorem d_Un_keep_50 : decode c_Un_keep 50 = .ok (.iadd, 1) := by decide +kernel
theorem d_Un_keep_51 : decode c_Un_keep 51 = .ok (.putfield 15, 3) := by decide +kernel
theorem d_Un_keep_54 : decode c_Un_keep 54 = .ok (.iinc 4 1, 3) := by decide +kernel
theorem d_Un_keep_57 : decode c_Un_keep 57 = .ok (.goto (-44), 3) := by decide +kernel
theorem d_Un_keep_60 : decode c_Un_keep 60 = .ok (.return_, 1) := by decide +kernel
theorem d_Un_length_0 : decode c_Un_length 0 = .ok (.aload_n 0, 1) := by decide +kernel
theorem d_Un_length_1 : decode c_Un_length 1 = .ok (.getfield 15, 3) := by decide +kernel
theorem d_Un_length_4 : decode c_Un_length 4 = .ok (.ireturn, 1) := by decide +kernel
theorem d_Un_letterAt_0 : decode c_Un_letterAt 0 = .ok (.iload_n 1, 1) := by decide +kernel
theorem d_Un_letterAt_1 : decode c_Un_letterAt 1 = .ok (.ifCond .lt 27, 3) := by decide +kernel
theorem d_Un_letterAt_4 : decode c_Un_letterAt 4 = .ok (.iload_n 1, 1) := by decide +kernel
theorem d_Un_letterAt_5 : decode c_Un_letterAt 5 = .ok (.aload_n 0, 1) := by decide +kernel
theorem d_Un_letterAt_6 : decode c_Un_letterAt 6 = .ok (.getfield 15, 3) := by decide +kernel
theorem d_Un_letterAt_9 : decode c_Un_letterAt 9 = .ok (.if_icmp .ge 19, 3) := by decide +kernel
theorem d_Un_letterAt_12 : decode c_Un_letterAt 12 = .ok (.iload_n 1, 1) := by decide +kernel
theorem d_Un_letterAt_13 : decode c_Un_letterAt 13 = .ok (.sipush 200, 3) := by decide +kernel
theorem d_Un_letterAt_16 : decode c_Un_letterAt 16 = .ok (.if_icmp .ge 12, 3) := by decide +kernel
theorem d_Un_letterAt_19 : decode c_Un_letterAt 19 = .ok (.aload_n 0, 1) := by decide +kernel
theorem d_Un_letterAt_20 : decode c_Un_letterAt 20 = .ok (.getfield 9, 3) := by decide +kernel
theorem d_Un_letterAt_23 : decode c_Un_letterAt 23 = .ok (.iload_n 1, 1) := by decide +kernel
theorem d_Un_letterAt_24 : decode c_Un_letterAt 24 = .ok (.iaload, 1) := by decide +kernel
theorem d_Un_letterAt_25 : decode c_Un_letterAt 25 = .ok (.goto 4, 3) := by decide +kernel
theorem d_Un_letterAt_28 : decode c_Un_letterAt 28 = .ok (.iconst (-1), 1) := by decide +kernel
theorem d_Un_letterAt_29 : decode c_Un_letterAt 29 = .ok (.ireturn, 1) := by decide +kernel
end
section
theorem d_QS_init_0 : decode c_QS_init 0 = .ok (.aload_n 0, 1) := by decide +kernel
theorem d_QS_init_1 : decode c_QS_init 1 = .ok (.invokespecial 1, 3) := by decide +kernel
theorem d_QS_init_4 : decode c_QS_init 4 = .ok (.aload_n 0, 1) := by decide +kernel
theorem d_QS_init_5 : decode c_QS_init 5 = .ok (.new 7, 3) := by decide +kernel
theorem d_QS_init_8 : decode c_QS_init 8 = .ok (.dup, 1) := by decide +kernel
theorem d_QS_init_9 : decode c_QS_init 9 = .ok (.invokespecial 9, 3) := by decide +kernel
theorem d_QS_init_12 : decode c_QS_init 12 = .ok (.putfield 10, 3) := by decide +kernel
theorem d_QS_init_15 : decode c_QS_init 15 = .ok (.aload_n 0, 1) := by decide +kernel
theorem d_QS_init_16 : decode c_QS_init 16 = .ok (.new 16, 3) := by decide +kernel
theorem d_QS_init_19 : decode c_QS_init 19 = .ok (.dup, 1) := by decide +kernel
theorem d_QS_init_20 : decode c_QS_init 20 = .ok (.invokespecial 18, 3) := by decide +kernel
theorem d_QS_init_23 : decode c_QS_init 23 = .ok (.putfield 19, 3) := by decide +kernel
theorem d_QS_init_26 : decode c_QS_init 26 = .ok (.aload_n 0, 1) := by decide +kernel
theorem d_QS_init_27 : decode c_QS_init 27 = .ok (.new 23, 3) := by decide +kernel
theorem d_QS_init_30 : decode c_QS_init 30 = .ok (.dup, 1) := by decide +kernel
theorem d_QS_init_31 : decode c_QS_init 31 = .ok (.invokespecial 25, 3) := by decide +kernel
theorem d_QS_init_34 : decode c_QS_init 34 = .ok (.putfield 26, 3) := by decide +kernel
theorem d_QS_init_37 : decode c_QS_init 37 = .ok (.aload_n 0, 1) := by decide +kernel
theorem d_QS_init_38 : decode c_QS_init 38 = .ok (.new 30, 3) := by decide +kernel
theorem d_QS_init_41 : decode c_QS_init 41 = .ok (.dup, 1) := by decide +kernel
theorem d_QS_init_42 : decode c_QS_init 42 = .ok (.invokespecial 32, 3) := by decide +kernel
theorem d_QS_init_45 : decode c_QS_init 45 = .ok (.putfield 33, 3) := by decide +kernel
theorem d_QS_init_48 : decode c_QS_init 48 = .ok (.aload_n 0, 1) := by decide +kernel
theorem d_QS_init_49 : decode c_QS_init 49 = .ok (.new 30, 3) := by decide +kernel
theorem d_QS_init_52 : decode c_QS_init 52 = .ok (.dup, 1) := by decide +kernel
theorem d_QS_init_53 : decode c_QS_init 53 = .ok (.invokespecial 32, 3) := by decide +kernel
theorem d_QS_init_56 : decode c_QS_init 56 = .ok (.putfield 37, 3) := by decide +kernel
theorem d_QS_init_59 : decode c_QS_init 59 = .ok (.aload_n 0, 1) := by decide +kernel
theorem d_QS_init_60 : decode c_QS_init 60 = .ok (.new 40, 3) := by decide +kernel
theorem d_QS_init_63 : decode c_QS_init 63 = .ok (.dup, 1) := by decide +kernel
theorem d_QS_init_64 : decode c_QS_init 64 = .ok (.aload_n 0, 1) := by decide +kernel
theorem d_QS_init_65 : decode c_QS_init 65 = .ok (.getfield 10, 3) := by decide +kernel
theorem d_QS_init_68 : decode c_QS_init 68 = .ok (.aload_n 0, 1) := by decide +kernel
theorem d_QS_init_69 : decode c_QS_init 69 = .ok (.getfield 19, 3) := by decide +kernel
theorem d_QS_init_72 : decode c_QS_init 72 = .ok (.aload_n 0, 1) := by decide +kernel
theorem d_QS_init_73 : decode c_QS_init 73 = .ok (.getfield 26, 3) := by decide +kernel
theorem d_QS_init_76 : decode c_QS_init 76 = .ok (.aload_n 0, 1) := by decide +kernel
theorem d_QS_init_77 : decode c_QS_init 77 = .ok (.getfield 33, 3) := by decide +kernel
theorem d_QS_init_80 : decode c_QS_init 80 = .ok (.invokespecial 42, 3) := by decide +kernel
theorem d_QS_init_83 : decode c_QS_init 83 = .ok (.putfield 45, 3) := by decide +kernel
theorem d_QS_init_86 : decode c_QS_init 86 = .ok (.aload_n 0, 1) := by decide +kernel
theorem d_QS_init_87 : decode c_QS_init 87 = .ok (.new 49, 3) := by decide +kernel
theorem d_QS_init_90 : decode c_QS_init 90 = .ok (.dup, 1) := by decide +kernel
theorem d_QS_init_91 : decode c_QS_init 91 = .ok (.aload_n 0, 1) := by decide +kernel
theorem d_QS_init_92 : decode c_QS_init 92 = .ok (.getfield 10, 3) := by decide +kernel
theorem d_QS_init_95 : decode c_QS_init 95 = .ok (.aload_n 0, 1) := by decide +kernel
theorem d_QS_init_96 : decode c_QS_init 96 = .ok (.getfield 19, 3) := by decide +kernel
theorem d_QS_init_99 : decode c_QS_init 99 = .ok (.aload_n 0, 1) := by decide +kernel
theorem d_QS_init_100 : decode c_QS_init 100 = .ok (.getfield 26, 3) := by decide +kernel
theorem d_QS_init_103 : decode c_QS_init 103 = .ok (.aload_n 0, 1) := by decide +kernel
theorem d_QS_init_104 : decode c_QS_init 104 = .ok (.getfield 33, 3) := by decide +kernel
theorem d_QS_init_107 : decode c_QS_init 107 = .ok (.invokespecial 51, 3) := by decide +kernel
theorem d_QS_init_110 : decode c_QS_init 110 = .ok (.putfield 52, 3) := by decide +kernel
theorem d_QS_init_113 : decode c_QS_init 113 = .ok (.aload_n 0, 1) := by decide +kernel
theorem d_QS_init_114 : decode c_QS_init 114 = .ok (.new 55, 3) := by decide +kernel
theorem d_QS_init_117 : decode c_QS_init 117 = .ok (.dup, 1) := by decide +kernel
theorem d_QS_init_118 : decode c_QS_init 118 = .ok (.invokespecial 57, 3) := by decide +kernel
theorem d_QS_init_121 : decode c_QS_init 121 = .ok (.putfield 58, 3) := by decide +kernel
theorem d_QS_init_124 : decode c_QS_init 124 = .ok (.aload_n 0, 1) := by decide +kernel
theorem d_QS_init_125 : decode c_QS_init 125 = .ok (.bipush 10, 2) := by decide +kernel
theorem d_QS_init_127 : decode c_QS_init 127 = .ok (.anewarray 62, 3) := by decide +kernel
theorem d_QS_init_130 : decode c_QS_init 130 = .ok (.putfield 64, 3) := by decide +kernel
theorem d_QS_init_133 : decode c_QS_init 133 = .ok (.iconst 0, 1) := by decide +kernel
theorem d_QS_init_134 : decode c_QS_init 134 = .ok (.istore_n 1, 1) := by decide +kernel
theorem d_QS_init_135 : decode c_QS_init 135 = .ok (.iload_n 1, 1) := by decide +kernel
theorem d_QS_init_136 : decode c_QS_init 136 = .ok (.bipush 10, 2) := by decide +kernel
theorem d_QS_init_138 : decode c_QS_init 138 = .ok (.if_icmp .ge 22, 3) := by decide +kernel
theorem d_QS_init_141 : decode c_QS_init 141 = .ok (.aload_n 0, 1) := by decide +kernel
theorem d_QS_init_142 : decode c_QS_init 142 = .ok (.getfield 64, 3) := by decide +kernel
theorem d_QS_init_145 : decode c_QS_init 145 = .ok (.iload_n 1, 1) := by decide +kernel
theorem d_QS_init_146 : decode c_QS_init 146 = .ok (.new 62, 3) := by decide +kernel
theorem d_QS_init_149 : decode c_QS_init 149 = .ok (.dup, 1) := by decide +kernel
theorem d_QS_init_150 : decode c_QS_init 150 = .ok (.invokespecial 68, 3) := by decide +kernel
theorem d_QS_init_153 : decode c_QS_init 153 = .ok (.aastore, 1) := by decide +kernel
theorem d_QS_init_154 : decode c_QS_init 154 = .ok (.iinc 1 1, 3) := by decide +kernel
theorem d_QS_init_157 : decode c_QS_init 157 = .ok (.goto (-22), 3) := by decide +kernel
theorem d_QS_init_160 : decode c_QS_init 160 = .ok (.aload_n 0, 1) := by decide +kernel
theorem d_QS_init_161 : decode c_QS_init 161 = .ok (.new 69, 3) := by decide +kernel
theorem d_QS_init_164 : decode c_QS_init 164 = .ok (.dup, 1) := by decide +kernel
theorem d_QS_init_165 : decode c_QS_init 165 = .ok (.invokespecial 71, 3) := by decide +kernel
theorem d_QS_init_168 : decode c_QS_init 168 = .ok (.putfield 72, 3) := by decide +kernel
theorem d_QS_init_171 : decode c_QS_init 171 = .ok (.return_, 1) := by decide +kernel
theorem d_QS_sign_0 : decode c_QS_sign 0 = .ok (.aload_n 0, 1) := by decide +kernel
theorem d_QS_sign_1 : decode c_QS_sign 1 = .ok (.getfield 10, 3) := by decide +kernel
theorem d_QS_sign_4 : decode c_QS_sign 4 = .ok (.iload_n 1, 1) := by decide +kernel
theorem d_QS_sign_5 : decode c_QS_sign 5 = .ok (.sipush 255, 3) := by decide +kernel
theorem d_QS_sign_8 : decode c_QS_sign 8 = .ok (.iand, 1) := by decide +kernel
theorem d_QS_sign_9 : decode c_QS_sign 9 = .ok (.invokevirtual 76, 3) := by decide +kernel
theorem d_QS_sign_12 : decode c_QS_sign 12 = .ok (.return_, 1) := by decide +kernel
theorem d_QS_index_0 : decode c_QS_index 0 = .ok (.aload_n 0, 1) := by decide +kernel
theorem d_QS_index_1 : decode c_QS_index 1 = .ok (.getfield 19, 3) := by decide +kernel
theorem d_QS_index_4 : decode c_QS_index 4 = .ok (.aload_n 0, 1) := by decide +kernel
theorem d_QS_index_5 : decode c_QS_index 5 = .ok (.getfield 10, 3) := by decide +kernel
theorem d_QS_index_8 : decode c_QS_index 8 = .ok (.invokevirtual 80, 3) := by decide +kernel
theorem d_QS_index_11 : decode c_QS_index 11 = .ok (.istore_n 1, 1) := by decide +kernel
theorem d_QS_index_12 : decode c_QS_index 12 = .ok (.aload_n 0, 1) := by decide +kernel
theorem d_QS_index_13 : decode c_QS_index 13 = .ok (.getfield 10, 3) := by decide +kernel
theorem d_QS_index_16 : decode c_QS_index 16 = .ok (.invokevirtual 84, 3) := by decide +kernel
theorem d_QS_index_19 : decode c_QS_index 19 = .ok (.iload_n 1, 1) := by decide +kernel
theorem d_QS_index_20 : decode c_QS_index 20 = .ok (.ireturn, 1) := by decide +kernel
theorem d_QS_on_0 : decode c_QS_on 0 = .ok (.aload_n 0, 1) := by decide +kernel
theorem d_QS_on_1 : decode c_QS_on 1 = .ok (.getfield 19, 3) := by decide +kernel
theorem d_QS_on_4 : decode c_QS_on 4 = .ok (.iload_n 1, 1) := by decide +kernel
theorem d_QS_on_5 : decode c_QS_on 5 = .ok (.iload_n 2, 1) := by decide +kernel
theorem d_QS_on_6 : decode c_QS_on 6 = .ok (.invokevirtual 87, 3) := by decide +kernel
theorem d_QS_on_9 : decode c_QS_on 9 = .ok (.ireturn, 1) := by decide +kernel
theorem d_QS_read_0 : decode c_QS_read 0 = .ok (.iload_n 1, 1) := by decide +kernel
theorem d_QS_read_1 : decode c_QS_read 1 = .ok (.ifCond .ne 10, 3) := by decide +kernel
theorem d_QS_read_4 : decode c_QS_read 4 = .ok (.aload_n 0, 1) := by decide +kernel
theorem d_QS_read_5 : decode c_QS_read 5 = .ok (.getfield 45, 3) := by decide +kernel
theorem d_QS_read_8 : decode c_QS_read 8 = .ok (.goto 7, 3) := by decide +kernel
theorem d_QS_read_11 : decode c_QS_read 11 = .ok (.aload_n 0, 1) := by decide +kernel
theorem d_QS_read_12 : decode c_QS_read 12 = .ok (.getfield 52, 3) := by decide +kernel
theorem d_QS_read_15 : decode c_QS_read 15 = .ok (.astore_n 2, 1) := by decide +kernel
theorem d_QS_read_16 : decode c_QS_read 16 = .ok (.aload_n 0, 1) := by decide +kernel
theorem d_QS_read_17 : decode c_QS_read 17 = .ok (.getfield 26, 3) := by decide +kernel
theorem d_QS_read_20 : decode c_QS_read 20 = .ok (.invokevirtual 91, 3) := by decide +kernel
theorem d_QS_read_23 : decode c_QS_read 23 = .ok (.aload_n 0, 1) := by decide +kernel
theorem d_QS_read_24 : decode c_QS_read 24 = .ok (.getfield 33, 3) := by decide +kernel
theorem d_QS_read_27 : decode c_QS_read 27 = .ok (.invokevirtual 94, 3) := by decide +kernel
theorem d_QS_read_30 : decode c_QS_read 30 = .ok (.aload_n 0, 1) := by decide +kernel
theorem d_QS_read_31 : decode c_QS_read 31 = .ok (.getfield 10, 3) := by decide +kernel
theorem d_QS_read_34 : decode c_QS_read 34 = .ok (.iconst 0, 1) := by decide +kernel
theorem d_QS_read_35 : decode c_QS_read 35 = .ok (.invokevirtual 95, 3) := by decide +kernel
theorem d_QS_read_38 : decode c_QS_read 38 = .ok (.aload_n 2, 1) := by decide +kernel
theorem d_QS_read_39 : decode c_QS_read 39 = .ok (.iconst 0, 1) := by decide +kernel
theorem d_QS_read_40 : decode c_QS_read 40 = .ok (.invokevirtual 98, 3) := by decide +kernel
theorem d_QS_read_43 : decode c_QS_read 43 = .ok (.ifCond .eq 17, 3) := by decide +kernel
theorem d_QS_read_46 : decode c_QS_read 46 = .ok (.aload_n 0, 1) := by decide +kernel
theorem d_QS_read_47 : decode c_QS_read 47 = .ok (.getfield 10, 3) := by decide +kernel
theorem d_QS_read_50 : decode c_QS_read 50 = .ok (.invokevirtual 104, 3) := by decide +kernel
theorem d_QS_read_53 : decode c_QS_read 53 = .ok (.ifCond .eq 7, 3) := by decide +kernel
theorem d_QS_read_56 : decode c_QS_read 56 = .ok (.iconst 1, 1) := by decide +kernel
theorem d_QS_read_57 : decode c_QS_read 57 = .ok (.goto 4, 3) := by decide +kernel
theorem d_QS_read_60 : decode c_QS_read 60 = .ok (.iconst 0, 1) := by decide +kernel
theorem d_QS_read_61 : decode c_QS_read 61 = .ok (.istore_n 3, 1) := by decide +kernel
theorem d_QS_read_62 : decode c_QS_read 62 = .ok (.aload_n 0, 1) := by decide +kernel
theorem d_QS_read_63 : decode c_QS_read 63 = .ok (.getfield 10, 3) := by decide +kernel
theorem d_QS_read_66 : decode c_QS_read 66 = .ok (.invokevirtual 108, 3) := by decide +kernel
theorem d_QS_read_69 : decode c_QS_read 69 = .ok (.istore 4, 2) := by decide +kernel
theorem d_QS_read_71 : decode c_QS_read 71 = .ok (.aload_n 0, 1) := by decide +kernel
theorem d_QS_read_72 : decode c_QS_read 72 = .ok (.getfield 10, 3) := by decide +kernel
theorem d_QS_read_75 : decode c_QS_read 75 = .ok (.invokevirtual 84, 3) := by decide +kernel
theorem d_QS_read_78 : decode c_QS_read 78 = .ok (.iload_n 3, 1) := by decide +kernel
theorem d_QS_read_79 : decode c_QS_read 79 = .ok (.ifCond .ne 8, 3) := by decide +kernel
theorem d_QS_read_82 : decode c_QS_read 82 = .ok (.iconst (-1), 1) := by decide +kernel
theorem d_QS_read_83 : decode c_QS_read 83 = .ok (.iload 4, 2) := by decide +kernel
theorem d_QS_read_85 : decode c_QS_read 85 = .ok (.isub, 1) := by decide +kernel
theorem d_QS_read_86 : decode c_QS_read 86 = .ok (.ireturn, 1) := by decide +kernel
theorem d_QS_read_87 : decode c_QS_read 87 = .ok (.aload_n 0, 1) := by decide +kernel
theorem d_QS_read_88 : decode c_QS_read 88 = .ok (.getfield 37, 3) := by decide +kernel
theorem d_QS_read_91 : decode c_QS_read 91 = .ok (.aload_n 0, 1) := by decide +kernel
theorem d_QS_read_92 : decode c_QS_read 92 = .ok (.getfield 33, 3) := by decide +kernel
theorem d_QS_read_95 : decode c_QS_read 95 = .ok (.invokevirtual 112, 3) := by decide +kernel
theorem d_QS_read_98 : decode c_QS_read 98 = .ok (.aload_n 0, 1) := by decide +kernel
theorem d_QS_read_99 : decode c_QS_read 99 = .ok (.getfield 37, 3) := by decide +kernel
theorem d_QS_read_102 : decode c_QS_read 102 = .ok (.invokevirtual 116, 3) := by decide +kernel
theorem d_QS_read_105 : decode c_QS_read 105 = .ok (.ireturn, 1) := by decide +kernel
theorem d_QS_node_0 : decode c_QS_node 0 = .ok (.iload_n 2, 1) := by decide +kernel
theorem d_QS_node_1 : decode c_QS_node 1 = .ok (.tableswitch 67 0 3 #[31, 40, 49, 58], 31) := by decide +kernel
theorem d_QS_node_32 : decode c_QS_node 32 = .ok (.aload_n 0, 1) := by decide +kernel
theorem d_QS_node_33 : decode c_QS_node 33 = .ok (.getfield 37, 3) := by decide +kernel
theorem d_QS_node_36 : decode c_QS_node 36 = .ok (.iload_n 1, 1) := by decide +kernel
theorem d_QS_node_37 : decode c_QS_node 37 = .ok (.invokevirtual 119, 3) := by decide +kernel
theorem d_QS_node_40 : decode c_QS_node 40 = .ok (.ireturn, 1) := by decide +kernel
theorem d_QS_node_41 : decode c_QS_node 41 = .ok (.aload_n 0, 1) := by decide +kernel
theorem d_QS_node_42 : decode c_QS_node 42 = .ok (.getfield 37, 3) := by decide +kernel
theorem d_QS_node_45 : decode c_QS_node 45 = .ok (.iload_n 1, 1) := by decide +kernel
theorem d_QS_node_46 : decode c_QS_node 46 = .ok (.invokevirtual 123, 3) := by decide +kernel
theorem d_QS_node_49 : decode c_QS_node 49 = .ok (.ireturn, 1) := by decide +kernel
theorem d_QS_node_50 : decode c_QS_node 50 = .ok (.aload_n 0, 1) := by decide +kernel
theorem d_QS_node_51 : decode c_QS_node 51 = .ok (.getfield 37, 3) := by decide +kernel
theorem d_QS_node_54 : decode c_QS_node 54 = .ok (.iload_n 1, 1) := by decide +kernel
theorem d_QS_node_55 : decode c_QS_node 55 = .ok (.invokevirtual 126, 3) := by decide +kernel
theorem d_QS_node_58 : decode c_QS_node 58 = .ok (.ireturn, 1) := by decide +kernel
theorem d_QS_node_59 : decode c_QS_node 59 = .ok (.aload_n 0, 1) := by decide +kernel
theorem d_QS_node_60 : decode c_QS_node 60 = .ok (.getfield 37, 3) := by decide +kernel
theorem d_QS_node_63 : decode c_QS_node 63 = .ok (.iload_n 1, 1) := by decide +kernel
theorem d_QS_node_64 : decode c_QS_node 64 = .ok (.invokevirtual 129, 3) := by decide +kernel
theorem d_QS_node_67 : decode c_QS_node 67 = .ok (.ireturn, 1) := by decide +kernel
theorem d_QS_node_68 : decode c_QS_node 68 = .ok (.iconst (-1), 1) := by decide +kernel
theorem d_QS_node_69 : decode c_QS_node 69 = .ok (.ireturn, 1) := by decide +kernel
theorem d_QS_near_0 : decode c_QS_near 0 = .ok (.aload_n 0, 1) := by decide +kernel
theorem d_QS_near_1 : decode c_QS_near 1 = .ok (.getfield 19, 3) := by decide +kernel
theorem d_QS_near_4 : decode c_QS_near 4 = .ok (.aload_n 0, 1) := by decide +kernel
theorem d_QS_near_5 : decode c_QS_near 5 = .ok (.getfield 26, 3) := by decide +kernel
theorem d_QS_near_8 : decode c_QS_near 8 = .ok (.invokevirtual 132, 3) := by decide +kernel
theorem d_QS_near_11 : decode c_QS_near 11 = .ok (.ireturn, 1) := by decide +kernel
theorem d_QS_record_0 : decode c_QS_record 0 = .ok (.aload_n 0, 1) := by decide +kernel
theorem d_QS_record_1 : decode c_QS_record 1 = .ok (.getfield 58, 3) := by decide +kernel
theorem d_QS_record_4 : decode c_QS_record 4 = .ok (.lload_n 1, 1) := by decide +kernel
theorem d_QS_record_5 : decode c_QS_record 5 = .ok (.invokevirtual 136, 3) := by decide +kernel
theorem d_QS_record_8 : decode c_QS_record 8 = .ok (.ireturn, 1) := by decide +kernel
theorem d_QS_entry_0 : decode c_QS_entry 0 = .ok (.aload_n 0, 1) := by decide +kernel
theorem d_QS_entry_1 : decode c_QS_entry 1 = .ok (.getfield 19, 3) := by decide +kernel
theorem d_QS_entry_4 : decode c_QS_entry 4 = .ok (.iload_n 2, 1) := by decide +kernel
theorem d_QS_entry_5 : decode c_QS_entry 5 = .ok (.invokevirtual 140, 3) := by decide +kernel
theorem d_QS_entry_8 : decode c_QS_entry 8 = .ok (.ifCond .eq 13, 3) := by decide +kernel
theorem d_QS_entry_11 : decode c_QS_entry 11 = .ok (.iload_n 3, 1) := by decide +kernel
theorem d_QS_entry_12 : decode c_QS_entry 12 = .ok (.ifCond .lt 9, 3) := by decide +kernel
theorem d_QS_entry_15 : decode c_QS_entry 15 = .ok (.iload_n 3, 1) := by decide +kernel
theorem d_QS_entry_16 : decode c_QS_entry 16 = .ok (.ldc 143, 2) := by decide +kernel
theorem d_QS_entry_18 : decode c_QS_entry 18 = .ok (.if_icmp .le 5, 3) := by decide +kernel
theorem d_QS_entry_21 : decode c_QS_entry 21 = .ok (.iconst 0, 1) := by decide +kernel
theorem d_QS_entry_22 : decode c_QS_entry 22 = .ok (.ireturn, 1) := by decide +kernel
theorem d_QS_entry_23 : decode c_QS_entry 23 = .ok (.aload_n 0, 1) := by decide +kernel
theorem d_QS_entry_24 : decode c_QS_entry 24 = .ok (.getfield 58, 3) := by decide +kernel
theorem d_QS_entry_27 : decode c_QS_entry 27 = .ok (.iload_n 1, 1) := by decide +kernel
theorem d_QS_entry_28 : decode c_QS_entry 28 = .ok (.iload_n 2, 1) := by decide +kernel
theorem d_QS_entry_29 : decode c_QS_entry 29 = .ok (.iload_n 3, 1) := by decide +kernel
theorem d_QS_entry_30 : decode c_QS_entry 30 = .ok (.invokevirtual 144, 3) := by decide +kernel
theorem d_QS_entry_33 : decode c_QS_entry 33 = .ok (.ireturn, 1) := by decide +kernel
theorem d_QS_save_0 : decode c_QS_save 0 = .ok (.iload_n 1, 1) := by decide +kernel
theorem d_QS_save_1 : decode c_QS_save 1 = .ok (.ifCond .lt 19, 3) := by decide +kernel
theorem d_QS_save_4 : decode c_QS_save 4 = .ok (.iload_n 1, 1) := by decide +kernel
theorem d_QS_save_5 : decode c_QS_save 5 = .ok (.bipush 10, 2) := by decide +kernel
theorem d_QS_save_7 : decode c_QS_save 7 = .ok (.if_icmp .ge 13, 3) := by decide +kernel
theorem d_QS_save_10 : decode c_QS_save 10 = .ok (.aload_n 0, 1) := by decide +kernel
theorem d_QS_save_11 : decode c_QS_save 11 = .ok (.getfield 37, 3) := by decide +kernel
theorem d_QS_save_14 : decode c_QS_save 14 = .ok (.invokevirtual 116, 3) := by decide +kernel
theorem d_QS_save_17 : decode c_QS_save 17 = .ok (.ifCond .ne 5, 3) := by decide +kernel
theorem d_QS_save_20 : decode c_QS_save 20 = .ok (.iconst 0, 1) := by decide +kernel
theorem d_QS_save_21 : decode c_QS_save 21 = .ok (.ireturn, 1) := by decide +kernel
theorem d_QS_save_22 : decode c_QS_save 22 = .ok (.aload_n 0, 1) := by decide +kernel
theorem d_QS_save_23 : decode c_QS_save 23 = .ok (.getfield 64, 3) := by decide +kernel
theorem d_QS_save_26 : decode c_QS_save 26 = .ok (.iload_n 1, 1) := by decide +kernel
theorem d_QS_save_27 : decode c_QS_save 27 = .ok (.aaload, 1) := by decide +kernel
theorem d_QS_save_28 : decode c_QS_save 28 = .ok (.aload_n 0, 1) := by decide +kernel
theorem d_QS_save_29 : decode c_QS_save 29 = .ok (.getfield 37, 3) := by decide +kernel
theorem d_QS_save_32 : decode c_QS_save 32 = .ok (.invokevirtual 148, 3) := by decide +kernel
theorem d_QS_save_35 : decode c_QS_save 35 = .ok (.iconst 1, 1) := by decide +kernel
theorem d_QS_save_36 : decode c_QS_save 36 = .ok (.ireturn, 1) := by decide +kernel
theorem d_QS_run_0 : decode c_QS_run 0 = .ok (.aload_n 0, 1) := by decide +kernel
theorem d_QS_run_1 : decode c_QS_run 1 = .ok (.iload_n 1, 1) := by decide +kernel
theorem d_QS_run_2 : decode c_QS_run 2 = .ok (.invokevirtual 151, 3) := by decide +kernel
theorem d_QS_run_5 : decode c_QS_run 5 = .ok (.ifCond .ne 5, 3) := by decide +kernel
theorem d_QS_run_8 : decode c_QS_run 8 = .ok (.iconst (-1), 1) := by decide +kernel
theorem d_QS_run_9 : decode c_QS_run 9 = .ok (.ireturn, 1) := by decide +kernel
theorem d_QS_run_10 : decode c_QS_run 10 = .ok (.aload_n 0, 1) := by decide +kernel
theorem d_QS_run_11 : decode c_QS_run 11 = .ok (.getfield 72, 3) := by decide +kernel
theorem d_QS_run_14 : decode c_QS_run 14 = .ok (.aload_n 0, 1) := by decide +kernel
theorem d_QS_run_15 : decode c_QS_run 15 = .ok (.getfield 58, 3) := by decide +kernel
theorem d_QS_run_18 : decode c_QS_run 18 = .ok (.aload_n 0, 1) := by decide +kernel
theorem d_QS_run_19 : decode c_QS_run 19 = .ok (.getfield 64, 3) := by decide +kernel
theorem d_QS_run_22 : decode c_QS_run 22 = .ok (.iload_n 1, 1) := by decide +kernel
theorem d_QS_run_23 : decode c_QS_run 23 = .ok (.aaload, 1) := by decide +kernel
theorem d_QS_run_24 : decode c_QS_run 24 = .ok (.iconst 0, 1) := by decide +kernel
theorem d_QS_run_25 : decode c_QS_run 25 = .ok (.invokevirtual 154, 3) := by decide +kernel
theorem d_QS_run_28 : decode c_QS_run 28 = .ok (.ireturn, 1) := by decide +kernel
theorem d_QS_alert_0 : decode c_QS_alert 0 = .ok (.aload_n 0, 1) := by decide +kernel
theorem d_QS_alert_1 : decode c_QS_alert 1 = .ok (.iload_n 1, 1) := by decide +kernel
theorem d_QS_alert_2 : decode c_QS_alert 2 = .ok (.invokevirtual 151, 3) := by decide +kernel
theorem d_QS_alert_5 : decode c_QS_alert 5 = .ok (.ifCond .ne 5, 3) := by decide +kernel
theorem d_QS_alert_8 : decode c_QS_alert 8 = .ok (.iconst (-1), 1) := by decide +kernel
theorem d_QS_alert_9 : decode c_QS_alert 9 = .ok (.ireturn, 1) := by decide +kernel
theorem d_QS_alert_10 : decode c_QS_alert 10 = .ok (.aload_n 0, 1) := by decide +kernel
theorem d_QS_alert_11 : decode c_QS_alert 11 = .ok (.getfield 72, 3) := by decide +kernel
theorem d_QS_alert_14 : decode c_QS_alert 14 = .ok (.aload_n 0, 1) := by decide +kernel
theorem d_QS_alert_15 : decode c_QS_alert 15 = .ok (.getfield 58, 3) := by decide +kernel
theorem d_QS_alert_18 : decode c_QS_alert 18 = .ok (.aload_n 0, 1) := by decide +kernel
theorem d_QS_alert_19 : decode c_QS_alert 19 = .ok (.getfield 64, 3) := by decide +kernel
theorem d_QS_alert_22 : decode c_QS_alert 22 = .ok (.iload_n 1, 1) := by decide +kernel
theorem d_QS_alert_23 : decode c_QS_alert 23 = .ok (.aaload, 1) := by decide +kernel
theorem d_QS_alert_24 : decode c_QS_alert 24 = .ok (.iconst 1, 1) := by decide +kernel
theorem d_QS_alert_25 : decode c_QS_alert 25 = .ok (.invokevirtual 154, 3) := by decide +kernel
theorem d_QS_alert_28 : decode c_QS_alert 28 = .ok (.istore_n 2, 1) := by decide +kernel
theorem d_QS_alert_29 : decode c_QS_alert 29 = .ok (.aload_n 0, 1) := by decide +kernel
theorem d_QS_alert_30 : decode c_QS_alert 30 = .ok (.getfield 58, 3) := by decide +kernel
theorem d_QS_alert_33 : decode c_QS_alert 33 = .ok (.invokevirtual 158, 3) := by decide +kernel
theorem d_QS_alert_36 : decode c_QS_alert 36 = .ok (.ifCond .le 26, 3) := by decide +kernel
theorem d_QS_alert_39 : decode c_QS_alert 39 = .ok (.aload_n 0, 1) := by decide +kernel
theorem d_QS_alert_40 : decode c_QS_alert 40 = .ok (.getfield 64, 3) := by decide +kernel
theorem d_QS_alert_43 : decode c_QS_alert 43 = .ok (.iload_n 1, 1) := by decide +kernel
theorem d_QS_alert_44 : decode c_QS_alert 44 = .ok (.aaload, 1) := by decide +kernel
theorem d_QS_alert_45 : decode c_QS_alert 45 = .ok (.aload_n 0, 1) := by decide +kernel
theorem d_QS_alert_46 : decode c_QS_alert 46 = .ok (.getfield 58, 3) := by decide +kernel
theorem d_QS_alert_49 : decode c_QS_alert 49 = .ok (.aload_n 0, 1) := by decide +kernel
theorem d_QS_alert_50 : decode c_QS_alert 50 = .ok (.getfield 58, 3) := by decide +kernel
theorem d_QS_alert_53 : decode c_QS_alert 53 = .ok (.invokevirtual 158, 3) := by decide +kernel
theorem d_QS_alert_56 : decode c_QS_alert 56 = .ok (.invokevirtual 159, 3) := by decide +kernel
theorem d_QS_alert_59 : decode c_QS_alert 59 = .ok (.invokevirtual 163, 3) := by decide +kernel
theorem d_QS_alert_62 : decode c_QS_alert 62 = .ok (.iload_n 2, 1) := by decide +kernel
theorem d_QS_alert_63 : decode c_QS_alert 63 = .ok (.ireturn, 1) := by decide +kernel
theorem d_QS_at_0 : decode c_QS_at 0 = .ok (.aload_n 0, 1) := by decide +kernel
theorem d_QS_at_1 : decode c_QS_at 1 = .ok (.getfield 72, 3) := by decide +kernel
theorem d_QS_at_4 : decode c_QS_at 4 = .ok (.iload_n 1, 1) := by decide +kernel
theorem d_QS_at_5 : decode c_QS_at 5 = .ok (.invokevirtual 167, 3) := by decide +kernel
theorem d_QS_at_8 : decode c_QS_at 8 = .ok (.ireturn, 1) := by decide +kernel
theorem d_QS_same_0 : decode c_QS_same 0 = .ok (.aload_n 0, 1) := by decide +kernel
theorem d_QS_same_1 : decode c_QS_same 1 = .ok (.iload_n 1, 1) := by decide +kernel
theorem d_QS_same_2 : decode c_QS_same 2 = .ok (.invokevirtual 170, 3) := by decide +kernel
theorem d_QS_same_5 : decode c_QS_same 5 = .ok (.ifCond .eq 39, 3) := by decide +kernel
theorem d_QS_same_8 : decode c_QS_same 8 = .ok (.aload_n 0, 1) := by decide +kernel
theorem d_QS_same_9 : decode c_QS_same 9 = .ok (.iload_n 2, 1) := by decide +kernel
theorem d_QS_same_10 : decode c_QS_same 10 = .ok (.invokevirtual 170, 3) := by decide +kernel
theorem d_QS_same_13 : decode c_QS_same 13 = .ok (.ifCond .eq 31, 3) := by decide +kernel
theorem d_QS_same_16 : decode c_QS_same 16 = .ok (.aload_n 0, 1) := by decide +kernel
theorem d_QS_same_17 : decode c_QS_same 17 = .ok (.getfield 64, 3) := by decide +kernel
theorem d_QS_same_20 : decode c_QS_same 20 = .ok (.iload_n 1, 1) := by decide +kernel
theorem d_QS_same_21 : decode c_QS_same 21 = .ok (.aaload, 1) := by decide +kernel
theorem d_QS_same_22 : decode c_QS_same 22 = .ok (.getfield 173, 3) := by decide +kernel
theorem d_QS_same_25 : decode c_QS_same 25 = .ok (.aload_n 0, 1) := by decide +kernel
theorem d_QS_same_26 : decode c_QS_same 26 = .ok (.getfield 64, 3) := by decide +kernel
theorem d_QS_same_29 : decode c_QS_same 29 = .ok (.iload_n 2, 1) := by decide +kernel
theorem d_QS_same_30 : decode c_QS_same 30 = .ok (.aaload, 1) := by decide +kernel
theorem d_QS_same_31 : decode c_QS_same 31 = .ok (.getfield 173, 3) := by decide +kernel
theorem d_QS_same_34 : decode c_QS_same 34 = .ok (.invokevirtual 174, 3) := by decide +kernel
theorem d_QS_same_37 : decode c_QS_same 37 = .ok (.ifCond .eq 7, 3) := by decide +kernel
theorem d_QS_same_40 : decode c_QS_same 40 = .ok (.iconst 1, 1) := by decide +kernel
theorem d_QS_same_41 : decode c_QS_same 41 = .ok (.goto 4, 3) := by decide +kernel
theorem d_QS_same_44 : decode c_QS_same 44 = .ok (.iconst 0, 1) := by decide +kernel
theorem d_QS_same_45 : decode c_QS_same 45 = .ok (.ireturn, 1) := by decide +kernel
theorem d_QS_broken_0 : decode c_QS_broken 0 = .ok (.iconst 0, 1) := by decide +kernel
theorem d_QS_broken_1 : decode c_QS_broken 1 = .ok (.istore_n 1, 1) := by decide +kernel
theorem d_QS_broken_2 : decode c_QS_broken 2 = .ok (.iconst 0, 1) := by decide +kernel
theorem d_QS_broken_3 : decode c_QS_broken 3 = .ok (.istore_n 2, 1) := by decide +kernel
theorem d_QS_broken_4 : decode c_QS_broken 4 = .ok (.iload_n 2, 1) := by decide +kernel
theorem d_QS_broken_5 : decode c_QS_broken 5 = .ok (.bipush 10, 2) := by decide +kernel
theorem d_QS_broken_7 : decode c_QS_broken 7 = .ok (.if_icmp .ge 39, 3) := by decide +kernel
theorem d_QS_broken_10 : decode c_QS_broken 10 = .ok (.aload_n 0, 1) := by decide +kernel
theorem d_QS_broken_11 : decode c_QS_broken 11 = .ok (.iload_n 2, 1) := by decide +kernel
theorem d_QS_broken_12 : decode c_QS_broken 12 = .ok (.invokevirtual 170, 3) := by decide +kernel
theorem d_QS_broken_15 : decode c_QS_broken 15 = .ok (.ifCond .eq 25, 3) := by decide +kernel
theorem d_QS_broken_18 : decode c_QS_broken 18 = .ok (.aload_n 0, 1) := by decide +kernel
theorem d_QS_broken_19 : decode c_QS_broken 19 = .ok (.getfield 19, 3) := by decide +kernel
theorem d_QS_broken_22 : decode c_QS_broken 22 = .ok (.aload_n 0, 1) := by decide +kernel
theorem d_QS_broken_23 : decode c_QS_broken 23 = .ok (.getfield 64, 3) := by decide +kernel
theorem d_QS_broken_26 : decode c_QS_broken 26 = .ok (.iload_n 2, 1) := by decide +kernel
theorem d_QS_broken_27 : decode c_QS_broken 27 = .ok (.aaload, 1) := by decide +kernel
theorem d_QS_broken_28 : decode c_QS_broken 28 = .ok (.getfield 173, 3) := by decide +kernel
theorem d_QS_broken_31 : decode c_QS_broken 31 = .ok (.invokevirtual 178, 3) := by decide +kernel
theorem d_QS_broken_34 : decode c_QS_broken 34 = .ok (.ifCond .eq 6, 3) := by decide +kernel
theorem d_QS_broken_37 : decode c_QS_broken 37 = .ok (.iinc 1 1, 3) := by decide +kernel
theorem d_QS_broken_40 : decode c_QS_broken 40 = .ok (.iinc 2 1, 3) := by decide +kernel
theorem d_QS_broken_43 : decode c_QS_broken 43 = .ok (.goto (-39), 3) := by decide +kernel
theorem d_QS_broken_46 : decode c_QS_broken 46 = .ok (.iload_n 1, 1) := by decide +kernel
theorem d_QS_broken_47 : decode c_QS_broken 47 = .ok (.ireturn, 1) := by decide +kernel
theorem d_QS_isSaved_0 : decode c_QS_isSaved 0 = .ok (.iload_n 1, 1) := by decide +kernel
theorem d_QS_isSaved_1 : decode c_QS_isSaved 1 = .ok (.ifCond .lt 25, 3) := by decide +kernel
theorem d_QS_isSaved_4 : decode c_QS_isSaved 4 = .ok (.iload_n 1, 1) := by decide +kernel
theorem d_QS_isSaved_5 : decode c_QS_isSaved 5 = .ok (.bipush 10, 2) := by decide +kernel
theorem d_QS_isSaved_7 : decode c_QS_isSaved 7 = .ok (.if_icmp .ge 19, 3) := by decide +kernel
theorem d_QS_isSaved_10 : decode c_QS_isSaved 10 = .ok (.aload_n 0, 1) := by decide +kernel
theorem d_QS_isSaved_11 : decode c_QS_isSaved 11 = .ok (.getfield 64, 3) := by decide +kernel
theorem d_QS_isSaved_14 : decode c_QS_isSaved 14 = .ok (.iload_n 1, 1) := by decide +kernel
theorem d_QS_isSaved_15 : decode c_QS_isSaved 15 = .ok (.aaload, 1) := by decide +kernel
theorem d_QS_isSaved_16 : decode c_QS_isSaved 16 = .ok (.getfield 181, 3) := by decide +kernel
theorem d_QS_isSaved_19 : decode c_QS_isSaved 19 = .ok (.ifCond .eq 7, 3) := by decide +kernel
theorem d_QS_isSaved_22 : decode c_QS_isSaved 22 = .ok (.iconst 1, 1) := by decide +kernel
theorem d_QS_isSaved_23 : decode c_QS_isSaved 23 = .ok (.goto 4, 3) := by decide +kernel
theorem d_QS_isSaved_26 : decode c_QS_isSaved 26 = .ok (.iconst 0, 1) := by decide +kernel
theorem d_QS_isSaved_27 : decode c_QS_isSaved 27 = .ok (.ireturn, 1) := by decide +kernel
theorem d_QS_canRun_0 : decode c_QS_canRun 0 = .ok (.aload_n 0, 1) := by decide +kernel
theorem d_QS_canRun_1 : decode c_QS_canRun 1 = .ok (.iload_n 1, 1) := by decide +kernel
theorem d_QS_canRun_2 : decode c_QS_canRun 2 = .ok (.invokevirtual 170, 3) := by decide +kernel
theorem d_QS_canRun_5 : decode c_QS_canRun 5 = .ok (.ifCond .eq 26, 3) := by decide +kernel
theorem d_QS_canRun_8 : decode c_QS_canRun 8 = .ok (.aload_n 0, 1) := by decide +kernel
theorem d_QS_canRun_9 : decode c_QS_canRun 9 = .ok (.getfield 19, 3) := by decide +kernel
theorem d_QS_canRun_12 : decode c_QS_canRun 12 = .ok (.aload_n 0, 1) := by decide +kernel
theorem d_QS_canRun_13 : decode c_QS_canRun 13 = .ok (.getfield 64, 3) := by decide +kernel
theorem d_QS_canRun_16 : decode c_QS_canRun 16 = .ok (.iload_n 1, 1) := by decide +kernel
theorem d_QS_canRun_17 : decode c_QS_canRun 17 = .ok (.aaload, 1) := by decide +kernel
theorem d_QS_canRun_18 : decode c_QS_canRun 18 = .ok (.getfield 173, 3) := by decide +kernel
theorem d_QS_canRun_21 : decode c_QS_canRun 21 = .ok (.invokevirtual 178, 3) := by decide +kernel
theorem d_QS_canRun_24 : decode c_QS_canRun 24 = .ok (.ifCond .ne 7, 3) := by decide +kernel
theorem d_QS_canRun_27 : decode c_QS_canRun 27 = .ok (.iconst 1, 1) := by decide +kernel
theorem d_QS_canRun_28 : decode c_QS_canRun 28 = .ok (.goto 4, 3) := by decide +kernel
theorem d_QS_canRun_31 : decode c_QS_canRun 31 = .ok (.iconst 0, 1) := by decide +kernel
theorem d_QS_canRun_32 : decode c_QS_canRun 32 = .ok (.ireturn, 1) := by decide +kernel
theorem d_Bt_init_0 : decode c_Bt_init 0 = .ok (.aload_n 0, 1) := by decide +kernel
theorem d_Bt_init_1 : decode c_Bt_init 1 = .ok (.aload_n 1, 1) := by decide +kernel
theorem d_Bt_init_2 : decode c_Bt_init 2 = .ok (.aload_n 2, 1) := by decide +kernel
theorem d_Bt_init_3 : decode c_Bt_init 3 = .ok (.aload_n 3, 1) := by decide +kernel
theorem d_Bt_init_4 : decode c_Bt_init 4 = .ok (.aload 4, 2) := by decide +kernel
theorem d_Bt_init_6 : decode c_Bt_init 6 = .ok (.invokespecial 3, 3) := by decide +kernel
theorem d_Bt_init_9 : decode c_Bt_init 9 = .ok (.return_, 1) := by decide +kernel
theorem d_Bt_takesTree_0 : decode c_Bt_takesTree 0 = .ok (.aload_n 0, 1) := by decide +kernel
theorem d_Bt_takesTree_1 : decode c_Bt_takesTree 1 = .ok (.getfield 9, 3) := by decide +kernel
theorem d_Bt_takesTree_4 : decode c_Bt_takesTree 4 = .ok (.invokevirtual 15, 3) := by decide +kernel
theorem d_Bt_takesTree_7 : decode c_Bt_takesTree 7 = .ok (.istore_n 2, 1) := by decide +kernel
theorem d_Bt_takesTree_8 : decode c_Bt_takesTree 8 = .ok (.iload_n 2, 1) := by decide +kernel
theorem d_Bt_takesTree_9 : decode c_Bt_takesTree 9 = .ok (.istore_n 3, 1) := by decide +kernel
theorem d_Bt_takesTree_10 : decode c_Bt_takesTree 10 = .ok (.aload_n 0, 1) := by decide +kernel
theorem d_Bt_takesTree_11 : decode c_Bt_takesTree 11 = .ok (.iload_n 1, 1) := by decide +kernel
theorem d_Bt_takesTree_12 : decode c_Bt_takesTree 12 = .ok (.invokevirtual 21, 3) := by decide +kernel
theorem d_Bt_takesTree_15 : decode c_Bt_takesTree 15 = .ok (.ifCond .ne 5, 3) := by decide +kernel
theorem d_Bt_takesTree_18 : decode c_Bt_takesTree 18 = .ok (.iconst 0, 1) := by decide +kernel
theorem d_Bt_takesTree_19 : decode c_Bt_takesTree 19 = .ok (.ireturn, 1) := by decide +kernel
theorem d_Bt_takesTree_20 : decode c_Bt_takesTree 20 = .ok (.iconst 0, 1) := by decide +kernel
theorem d_Bt_takesTree_21 : decode c_Bt_takesTree 21 = .ok (.istore 4, 2) := by decide +kernel
theorem d_Bt_takesTree_23 : decode c_Bt_takesTree 23 = .ok (.iload 4, 2) := by decide +kernel
theorem d_Bt_takesTree_25 : decode c_Bt_takesTree 25 = .ok (.sipush 200, 3) := by decide +kernel
theorem d_Bt_takesTree_28 : decode c_Bt_takesTree 28 = .ok (.if_icmp .ge 61, 3) := by decide +kernel
theorem d_Bt_takesTree_31 : decode c_Bt_takesTree 31 = .ok (.aload_n 0, 1) := by decide +kernel
theorem d_Bt_takesTree_32 : decode c_Bt_takesTree 32 = .ok (.getfield 25, 3) := by decide +kernel
theorem d_Bt_takesTree_35 : decode c_Bt_takesTree 35 = .ok (.bipush 32, 2) := by decide +kernel
theorem d_Bt_takesTree_37 : decode c_Bt_takesTree 37 = .ok (.invokevirtual 29, 3) := by decide +kernel
theorem d_Bt_takesTree_40 : decode c_Bt_takesTree 40 = .ok (.ifCond .eq 49, 3) := by decide +kernel
theorem d_Bt_takesTree_43 : decode c_Bt_takesTree 43 = .ok (.aload_n 0, 1) := by decide +kernel
theorem d_Bt_takesTree_44 : decode c_Bt_takesTree 44 = .ok (.iload_n 2, 1) := by decide +kernel
theorem d_Bt_takesTree_45 : decode c_Bt_takesTree 45 = .ok (.iload_n 3, 1) := by decide +kernel
theorem d_Bt_takesTree_46 : decode c_Bt_takesTree 46 = .ok (.invokevirtual 34, 3) := by decide +kernel
theorem d_Bt_takesTree_49 : decode c_Bt_takesTree 49 = .ok (.istore 5, 2) := by decide +kernel
theorem d_Bt_takesTree_51 : decode c_Bt_takesTree 51 = .ok (.iload 5, 2) := by decide +kernel
theorem d_Bt_takesTree_53 : decode c_Bt_takesTree 53 = .ok (.iconst (-1), 1) := by decide +kernel
theorem d_Bt_takesTree_54 : decode c_Bt_takesTree 54 = .ok (.if_icmp .ne 5, 3) := by decide +kernel
theorem d_Bt_takesTree_57 : decode c_Bt_takesTree 57 = .ok (.iconst 0, 1) := by decide +kernel
theorem d_Bt_takesTree_58 : decode c_Bt_takesTree 58 = .ok (.ireturn, 1) := by decide +kernel
theorem d_Bt_takesTree_59 : decode c_Bt_takesTree 59 = .ok (.iload 5, 2) := by decide +kernel
theorem d_Bt_takesTree_61 : decode c_Bt_takesTree 61 = .ok (.iconst 3, 1) := by decide +kernel
theorem d_Bt_takesTree_62 : decode c_Bt_takesTree 62 = .ok (.if_icmp .eq 11, 3) := by decide +kernel
theorem d_Bt_takesTree_65 : decode c_Bt_takesTree 65 = .ok (.aload_n 0, 1) := by decide +kernel
theorem d_Bt_takesTree_66 : decode c_Bt_takesTree 66 = .ok (.getfield 9, 3) := by decide +kernel
theorem d_Bt_takesTree_69 : decode c_Bt_takesTree 69 = .ok (.invokevirtual 15, 3) := by decide +kernel
theorem d_Bt_takesTree_72 : decode c_Bt_takesTree 72 = .ok (.istore_n 3, 1) := by decide +kernel
theorem d_Bt_takesTree_73 : decode c_Bt_takesTree 73 = .ok (.aload_n 0, 1) := by decide +kernel
theorem d_Bt_takesTree_74 : decode c_Bt_takesTree 74 = .ok (.iload_n 1, 1) := by decide +kernel
theorem d_Bt_takesTree_75 : decode c_Bt_takesTree 75 = .ok (.invokevirtual 21, 3) := by decide +kernel
theorem d_Bt_takesTree_78 : decode c_Bt_takesTree 78 = .ok (.ifCond .ne 5, 3) := by decide +kernel
theorem d_Bt_takesTree_81 : decode c_Bt_takesTree 81 = .ok (.iconst 0, 1) := by decide +kernel
theorem d_Bt_takesTree_82 : decode c_Bt_takesTree 82 = .ok (.ireturn, 1) := by decide +kernel
theorem d_Bt_takesTree_83 : decode c_Bt_takesTree 83 = .ok (.iinc 4 1, 3) := by decide +kernel
theorem d_Bt_takesTree_86 : decode c_Bt_takesTree 86 = .ok (.goto (-63), 3) := by decide +kernel
theorem d_Bt_takesTree_89 : decode c_Bt_takesTree 89 = .ok (.iconst 1, 1) := by decide +kernel
theorem d_Bt_takesTree_90 : decode c_Bt_takesTree 90 = .ok (.ireturn, 1) := by decide +kernel
theorem d_Bt_takeJoint_0 : decode c_Bt_takeJoint 0 = .ok (.aload_n 0, 1) := by decide +kernel
theorem d_Bt_takeJoint_1 : decode c_Bt_takeJoint 1 = .ok (.getfield 25, 3) := by decide +kernel
theorem d_Bt_takeJoint_4 : decode c_Bt_takeJoint 4 = .ok (.invokevirtual 38, 3) := by decide +kernel
theorem d_Bt_takeJoint_7 : decode c_Bt_takeJoint 7 = .ok (.istore_n 3, 1) := by decide +kernel
theorem d_Bt_takeJoint_8 : decode c_Bt_takeJoint 8 = .ok (.aload_n 0, 1) := by decide +kernel
theorem d_Bt_takeJoint_9 : decode c_Bt_takeJoint 9 = .ok (.getfield 25, 3) := by decide +kernel
theorem d_Bt_takeJoint_12 : decode c_Bt_takeJoint 12 = .ok (.iload_n 3, 1) := by decide +kernel
theorem d_Bt_takeJoint_13 : decode c_Bt_takeJoint 13 = .ok (.invokevirtual 41, 3) := by decide +kernel
theorem d_Bt_takeJoint_16 : decode c_Bt_takeJoint 16 = .ok (.istore 4, 2) := by decide +kernel
theorem d_Bt_takeJoint_18 : decode c_Bt_takeJoint 18 = .ok (.iload 4, 2) := by decide +kernel
theorem d_Bt_takeJoint_20 : decode c_Bt_takeJoint 20 = .ok (.iconst (-1), 1) := by decide +kernel
theorem d_Bt_takeJoint_21 : decode c_Bt_takeJoint 21 = .ok (.if_icmp .eq 26, 3) := by decide +kernel
theorem d_Bt_takeJoint_24 : decode c_Bt_takeJoint 24 = .ok (.aload_n 0, 1) := by decide +kernel
theorem d_Bt_takeJoint_25 : decode c_Bt_takeJoint 25 = .ok (.getfield 9, 3) := by decide +kernel
theorem d_Bt_takeJoint_28 : decode c_Bt_takeJoint 28 = .ok (.iload 4, 2) := by decide +kernel
theorem d_Bt_takeJoint_30 : decode c_Bt_takeJoint 30 = .ok (.iconst 3, 1) := by decide +kernel
theorem d_Bt_takeJoint_31 : decode c_Bt_takeJoint 31 = .ok (.if_icmp .ne 7, 3) := by decide +kernel
theorem d_Bt_takeJoint_34 : decode c_Bt_takeJoint 34 = .ok (.iload_n 2, 1) := by decide +kernel
theorem d_Bt_takeJoint_35 : decode c_Bt_takeJoint 35 = .ok (.goto 4, 3) := by decide +kernel
theorem d_Bt_takeJoint_38 : decode c_Bt_takeJoint 38 = .ok (.iload_n 1, 1) := by decide +kernel
theorem d_Bt_takeJoint_39 : decode c_Bt_takeJoint 39 = .ok (.iload 4, 2) := by decide +kernel
theorem d_Bt_takeJoint_41 : decode c_Bt_takeJoint 41 = .ok (.invokevirtual 45, 3) := by decide +kernel
theorem d_Bt_takeJoint_44 : decode c_Bt_takeJoint 44 = .ok (.ifCond .ne 5, 3) := by decide +kernel
theorem d_Bt_takeJoint_47 : decode c_Bt_takeJoint 47 = .ok (.iconst (-1), 1) := by decide +kernel
theorem d_Bt_takeJoint_48 : decode c_Bt_takeJoint 48 = .ok (.ireturn, 1) := by decide +kernel
theorem d_Bt_takeJoint_49 : decode c_Bt_takeJoint 49 = .ok (.aload_n 0, 1) := by decide +kernel
theorem d_Bt_takeJoint_50 : decode c_Bt_takeJoint 50 = .ok (.getfield 25, 3) := by decide +kernel
theorem d_Bt_takeJoint_53 : decode c_Bt_takeJoint 53 = .ok (.iload_n 3, 1) := by decide +kernel
theorem d_Bt_takeJoint_54 : decode c_Bt_takeJoint 54 = .ok (.invokevirtual 49, 3) := by decide +kernel
theorem d_Bt_takeJoint_57 : decode c_Bt_takeJoint 57 = .ok (.aload_n 0, 1) := by decide +kernel
theorem d_Bt_takeJoint_58 : decode c_Bt_takeJoint 58 = .ok (.getfield 25, 3) := by decide +kernel
theorem d_Bt_takeJoint_61 : decode c_Bt_takeJoint 61 = .ok (.bipush 32, 2) := by decide +kernel
theorem d_Bt_takeJoint_63 : decode c_Bt_takeJoint 63 = .ok (.invokevirtual 29, 3) := by decide +kernel
theorem d_Bt_takeJoint_66 : decode c_Bt_takeJoint 66 = .ok (.ifCond .eq 8, 3) := by decide +kernel
theorem d_Bt_takeJoint_69 : decode c_Bt_takeJoint 69 = .ok (.iload 4, 2) := by decide +kernel
theorem d_Bt_takeJoint_71 : decode c_Bt_takeJoint 71 = .ok (.goto 4, 3) := by decide +kernel
theorem d_Bt_takeJoint_74 : decode c_Bt_takeJoint 74 = .ok (.iconst (-1), 1) := by decide +kernel
theorem d_Bt_takeJoint_75 : decode c_Bt_takeJoint 75 = .ok (.ireturn, 1) := by decide +kernel
theorem d_Bt_takesTerm_0 : decode c_Bt_takesTerm 0 = .ok (.aload_n 0, 1) := by decide +kernel
theorem d_Bt_takesTerm_1 : decode c_Bt_takesTerm 1 = .ok (.getfield 25, 3) := by decide +kernel
theorem d_Bt_takesTerm_4 : decode c_Bt_takesTerm 4 = .ok (.aload_n 0, 1) := by decide +kernel
theorem d_Bt_takesTerm_5 : decode c_Bt_takesTerm 5 = .ok (.getfield 25, 3) := by decide +kernel
theorem d_Bt_takesTerm_8 : decode c_Bt_takesTerm 8 = .ok (.invokevirtual 53, 3) := by decide +kernel
theorem d_Bt_takesTerm_11 : decode c_Bt_takesTerm 11 = .ok (.invokevirtual 56, 3) := by decide +kernel
theorem d_Bt_takesTerm_14 : decode c_Bt_takesTerm 14 = .ok (.bipush 40, 2) := by decide +kernel
theorem d_Bt_takesTerm_16 : decode c_Bt_takesTerm 16 = .ok (.if_icmp .ne 49, 3) := by decide +kernel
theorem d_Bt_takesTerm_19 : decode c_Bt_takesTerm 19 = .ok (.iload_n 1, 1) := by decide +kernel
theorem d_Bt_takesTerm_20 : decode c_Bt_takesTerm 20 = .ok (.bipush 20, 2) := by decide +kernel
theorem d_Bt_takesTerm_22 : decode c_Bt_takesTerm 22 = .ok (.if_icmp .ge 41, 3) := by decide +kernel
theorem d_Bt_takesTerm_25 : decode c_Bt_takesTerm 25 = .ok (.aload_n 0, 1) := by decide +kernel
theorem d_Bt_takesTerm_26 : decode c_Bt_takesTerm 26 = .ok (.getfield 25, 3) := by decide +kernel
theorem d_Bt_takesTerm_29 : decode c_Bt_takesTerm 29 = .ok (.bipush 40, 2) := by decide +kernel
theorem d_Bt_takesTerm_31 : decode c_Bt_takesTerm 31 = .ok (.invokevirtual 29, 3) := by decide +kernel
theorem d_Bt_takesTerm_34 : decode c_Bt_takesTerm 34 = .ok (.ifCond .eq 29, 3) := by decide +kernel
theorem d_Bt_takesTerm_37 : decode c_Bt_takesTerm 37 = .ok (.aload_n 0, 1) := by decide +kernel
theorem d_Bt_takesTerm_38 : decode c_Bt_takesTerm 38 = .ok (.iload_n 1, 1) := by decide +kernel
theorem d_Bt_takesTerm_39 : decode c_Bt_takesTerm 39 = .ok (.iconst 1, 1) := by decide +kernel
theorem d_Bt_takesTerm_40 : decode c_Bt_takesTerm 40 = .ok (.iadd, 1) := by decide +kernel
theorem d_Bt_takesTerm_41 : decode c_Bt_takesTerm 41 = .ok (.invokevirtual 59, 3) := by decide +kernel
theorem d_Bt_takesTerm_44 : decode c_Bt_takesTerm 44 = .ok (.ifCond .eq 19, 3) := by decide +kernel
theorem d_Bt_takesTerm_47 : decode c_Bt_takesTerm 47 = .ok (.aload_n 0, 1) := by decide +kernel
theorem d_Bt_takesTerm_48 : decode c_Bt_takesTerm 48 = .ok (.getfield 25, 3) := by decide +kernel
theorem d_Bt_takesTerm_51 : decode c_Bt_takesTerm 51 = .ok (.bipush 41, 2) := by decide +kernel
theorem d_Bt_takesTerm_53 : decode c_Bt_takesTerm 53 = .ok (.invokevirtual 29, 3) := by decide +kernel
theorem d_Bt_takesTerm_56 : decode c_Bt_takesTerm 56 = .ok (.ifCond .eq 7, 3) := by decide +kernel
theorem d_Bt_takesTerm_59 : decode c_Bt_takesTerm 59 = .ok (.iconst 1, 1) := by decide +kernel
theorem d_Bt_takesTerm_60 : decode c_Bt_takesTerm 60 = .ok (.goto 4, 3) := by decide +kernel
theorem d_Bt_takesTerm_63 : decode c_Bt_takesTerm 63 = .ok (.iconst 0, 1) := by decide +kernel
theorem d_Bt_takesTerm_64 : decode c_Bt_takesTerm 64 = .ok (.ireturn, 1) := by decide +kernel
theorem d_Bt_takesTerm_65 : decode c_Bt_takesTerm 65 = .ok (.aload_n 0, 1) := by decide +kernel
theorem d_Bt_takesTerm_66 : decode c_Bt_takesTerm 66 = .ok (.invokevirtual 62, 3) := by decide +kernel
theorem d_Bt_takesTerm_69 : decode c_Bt_takesTerm 69 = .ok (.istore_n 2, 1) := by decide +kernel
theorem d_Bt_takesTerm_70 : decode c_Bt_takesTerm 70 = .ok (.iload_n 2, 1) := by decide +kernel
theorem d_Bt_takesTerm_71 : decode c_Bt_takesTerm 71 = .ok (.iconst (-1), 1) := by decide +kernel
theorem d_Bt_takesTerm_72 : decode c_Bt_takesTerm 72 = .ok (.if_icmp .eq 27, 3) := by decide +kernel
theorem d_Bt_takesTerm_75 : decode c_Bt_takesTerm 75 = .ok (.aload_n 0, 1) := by decide +kernel
theorem d_Bt_takesTerm_76 : decode c_Bt_takesTerm 76 = .ok (.getfield 25, 3) := by decide +kernel
theorem d_Bt_takesTerm_79 : decode c_Bt_takesTerm 79 = .ok (.bipush 61, 2) := by decide +kernel
theorem d_Bt_takesTerm_81 : decode c_Bt_takesTerm 81 = .ok (.invokevirtual 29, 3) := by decide +kernel
theorem d_Bt_takesTerm_84 : decode c_Bt_takesTerm 84 = .ok (.ifCond .eq 15, 3) := by decide +kernel
theorem d_Bt_takesTerm_87 : decode c_Bt_takesTerm 87 = .ok (.aload_n 0, 1) := by decide +kernel
theorem d_Bt_takesTerm_88 : decode c_Bt_takesTerm 88 = .ok (.iload_n 2, 1) := by decide +kernel
theorem d_Bt_takesTerm_89 : decode c_Bt_takesTerm 89 = .ok (.invokevirtual 65, 3) := by decide +kernel
theorem d_Bt_takesTerm_92 : decode c_Bt_takesTerm 92 = .ok (.ifCond .eq 7, 3) := by decide +kernel
theorem d_Bt_takesTerm_95 : decode c_Bt_takesTerm 95 = .ok (.iconst 1, 1) := by decide +kernel
theorem d_Bt_takesTerm_96 : decode c_Bt_takesTerm 96 = .ok (.goto 4, 3) := by decide +kernel
theorem d_Bt_takesTerm_99 : decode c_Bt_takesTerm 99 = .ok (.iconst 0, 1) := by decide +kernel
theorem d_Bt_takesTerm_100 : decode c_Bt_takesTerm 100 = .ok (.ireturn, 1) := by decide +kernel
theorem d_Bt_takesValues_0 : decode c_Bt_takesValues 0 = .ok (.aload_n 0, 1) := by decide +kernel
theorem d_Bt_takesValues_1 : decode c_Bt_takesValues 1 = .ok (.getfield 25, 3) := by decide +kernel
theorem d_Bt_takesValues_4 : decode c_Bt_takesValues 4 = .ok (.invokevirtual 68, 3) := by decide +kernel
theorem d_Bt_takesValues_7 : decode c_Bt_takesValues 7 = .ok (.istore_n 2, 1) := by decide +kernel
theorem d_Bt_takesValues_8 : decode c_Bt_takesValues 8 = .ok (.iload_n 2, 1) := by decide +kernel
theorem d_Bt_takesValues_9 : decode c_Bt_takesValues 9 = .ok (.iconst (-1), 1) := by decide +kernel
theorem d_Bt_takesValues_10 : decode c_Bt_takesValues 10 = .ok (.if_icmp .ne 5, 3) := by decide +kernel
theorem d_Bt_takesValues_13 : decode c_Bt_takesValues 13 = .ok (.iconst 0, 1) := by decide +kernel
theorem d_Bt_takesValues_14 : decode c_Bt_takesValues 14 = .ok (.ireturn, 1) := by decide +kernel
theorem d_Bt_takesValues_15 : decode c_Bt_takesValues 15 = .ok (.aload_n 0, 1) := by decide +kernel
theorem d_Bt_takesValues_16 : decode c_Bt_takesValues 16 = .ok (.getfield 25, 3) := by decide +kernel
theorem d_Bt_takesValues_19 : decode c_Bt_takesValues 19 = .ok (.bipush 42, 2) := by decide +kernel
theorem d_Bt_takesValues_21 : decode c_Bt_takesValues 21 = .ok (.invokevirtual 29, 3) := by decide +kernel
theorem d_Bt_takesValues_24 : decode c_Bt_takesValues 24 = .ok (.ifCond .eq 15, 3) := by decide +kernel
theorem d_Bt_takesValues_27 : decode c_Bt_takesValues 27 = .ok (.aload_n 0, 1) := by decide +kernel
theorem d_Bt_takesValues_28 : decode c_Bt_takesValues 28 = .ok (.getfield 9, 3) := by decide +kernel
theorem d_Bt_takesValues_31 : decode c_Bt_takesValues 31 = .ok (.iconst 2, 1) := by decide +kernel
theorem d_Bt_takesValues_32 : decode c_Bt_takesValues 32 = .ok (.iload_n 1, 1) := by decide +kernel
theorem d_Bt_takesValues_33 : decode c_Bt_takesValues 33 = .ok (.iload_n 2, 1) := by decide +kernel
theorem d_Bt_takesValues_34 : decode c_Bt_takesValues 34 = .ok (.iconst (-1), 1) := by decide +kernel
theorem d_Bt_takesValues_35 : decode c_Bt_takesValues 35 = .ok (.invokevirtual 71, 3) := by decide +kernel
theorem d_Bt_takesValues_38 : decode c_Bt_takesValues 38 = .ok (.ireturn, 1) := by decide +kernel
theorem d_Bt_takesValues_39 : decode c_Bt_takesValues 39 = .ok (.aload_n 0, 1) := by decide +kernel
theorem d_Bt_takesValues_40 : decode c_Bt_takesValues 40 = .ok (.getfield 25, 3) := by decide +kernel
theorem d_Bt_takesValues_43 : decode c_Bt_takesValues 43 = .ok (.bipush 46, 2) := by decide +kernel
theorem d_Bt_takesValues_45 : decode c_Bt_takesValues 45 = .ok (.invokevirtual 29, 3) := by decide +kernel
theorem d_Bt_takesValues_48 : decode c_Bt_takesValues 48 = .ok (.ifCond .eq 30, 3) := by decide +kernel
theorem d_Bt_takesValues_51 : decode c_Bt_takesValues 51 = .ok (.aload_n 0, 1) := by decide +kernel
theorem d_Bt_takesValues_52 : decode c_Bt_takesValues 52 = .ok (.getfield 25, 3) := by decide +kernel
theorem d_Bt_takesValues_55 : decode c_Bt_takesValues 55 = .ok (.bipush 46, 2) := by decide +kernel
theorem d_Bt_takesValues_57 : decode c_Bt_takesValues 57 = .ok (.invokevirtual 29, 3) := by decide +kernel
theorem d_Bt_takesValues_60 : decode c_Bt_takesValues 60 = .ok (.ifCond .eq 16, 3) := by decide +kernel
theorem d_Bt_takesValues_63 : decode c_Bt_takesValues 63 = .ok (.aload_n 0, 1) := by decide +kernel
theorem d_Bt_takesValues_64 : decode c_Bt_takesValues 64 = .ok (.iload_n 1, 1) := by decide +kernel
theorem d_Bt_takesValues_65 : decode c_Bt_takesValues 65 = .ok (.iload_n 2, 1) := by decide +kernel
theorem d_Bt_takesValues_66 : decode c_Bt_takesValues 66 = .ok (.invokevirtual 75, 3) := by decide +kernel
theorem d_Bt_takesValues_69 : decode c_Bt_takesValues 69 = .ok (.ifCond .eq 7, 3) := by decide +kernel
theorem d_Bt_takesValues_72 : decode c_Bt_takesValues 72 = .ok (.iconst 1, 1) := by decide +kernel
theorem d_Bt_takesValues_73 : decode c_Bt_takesValues 73 = .ok (.goto 4, 3) := by decide +kernel
theorem d_Bt_takesValues_76 : decode c_Bt_takesValues 76 = .ok (.iconst 0, 1) := by decide +kernel
theorem d_Bt_takesValues_77 : decode c_Bt_takesValues 77 = .ok (.ireturn, 1) := by decide +kernel
theorem d_Bt_takesValues_78 : decode c_Bt_takesValues 78 = .ok (.aload_n 0, 1) := by decide +kernel
theorem d_Bt_takesValues_79 : decode c_Bt_takesValues 79 = .ok (.getfield 9, 3) := by decide +kernel
theorem d_Bt_takesValues_82 : decode c_Bt_takesValues 82 = .ok (.iconst 0, 1) := by decide +kernel
theorem d_Bt_takesValues_83 : decode c_Bt_takesValues 83 = .ok (.iload_n 1, 1) := by decide +kernel
theorem d_Bt_takesValues_84 : decode c_Bt_takesValues 84 = .ok (.iload_n 2, 1) := by decide +kernel
theorem d_Bt_takesValues_85 : decode c_Bt_takesValues 85 = .ok (.iconst (-1), 1) := by decide +kernel
theorem d_Bt_takesValues_86 : decode c_Bt_takesValues 86 = .ok (.invokevirtual 71, 3) := by decide +kernel
theorem d_Bt_takesValues_89 : decode c_Bt_takesValues 89 = .ok (.ireturn, 1) := by decide +kernel
theorem d_Fr_init_0 : decode c_Fr_init 0 = .ok (.aload_n 0, 1) := by decide +kernel
theorem d_Fr_init_1 : decode c_Fr_init 1 = .ok (.aload_n 1, 1) := by decide +kernel
theorem d_Fr_init_2 : decode c_Fr_init 2 = .ok (.aload_n 2, 1) := by decide +kernel
theorem d_Fr_init_3 : decode c_Fr_init 3 = .ok (.aload_n 3, 1) := by decide +kernel
theorem d_Fr_init_4 : decode c_Fr_init 4 = .ok (.aload 4, 2) := by decide +kernel
theorem d_Fr_init_6 : decode c_Fr_init 6 = .ok (.invokespecial 3, 3) := by decide +kernel
theorem d_Fr_init_9 : decode c_Fr_init 9 = .ok (.return_, 1) := by decide +kernel
theorem d_Fr_takesTree_0 : decode c_Fr_takesTree 0 = .ok (.aload_n 0, 1) := by decide +kernel
theorem d_Fr_takesTree_1 : decode c_Fr_takesTree 1 = .ok (.getfield 9, 3) := by decide +kernel
theorem d_Fr_takesTree_4 : decode c_Fr_takesTree 4 = .ok (.invokevirtual 15, 3) := by decide +kernel
theorem d_Fr_takesTree_7 : decode c_Fr_takesTree 7 = .ok (.istore_n 2, 1) := by decide +kernel
theorem d_Fr_takesTree_8 : decode c_Fr_takesTree 8 = .ok (.aload_n 0, 1) := by decide +kernel
theorem d_Fr_takesTree_9 : decode c_Fr_takesTree 9 = .ok (.getfield 9, 3) := by decide +kernel
theorem d_Fr_takesTree_12 : decode c_Fr_takesTree 12 = .ok (.iload_n 2, 1) := by decide +kernel
theorem d_Fr_takesTree_13 : decode c_Fr_takesTree 13 = .ok (.invokevirtual 21, 3) := by decide +kernel
theorem d_Fr_takesTree_16 : decode c_Fr_takesTree 16 = .ok (.istore_n 3, 1) := by decide +kernel
theorem d_Fr_takesTree_17 : decode c_Fr_takesTree 17 = .ok (.iload_n 3, 1) := by decide +kernel
theorem d_Fr_takesTree_18 : decode c_Fr_takesTree 18 = .ok (.iconst (-1), 1) := by decide +kernel
theorem d_Fr_takesTree_19 : decode c_Fr_takesTree 19 = .ok (.if_icmp .ne 9, 3) := by decide +kernel
theorem d_Fr_takesTree_22 : decode c_Fr_takesTree 22 = .ok (.aload_n 0, 1) := by decide +kernel
theorem d_Fr_takesTree_23 : decode c_Fr_takesTree 23 = .ok (.iload_n 1, 1) := by decide +kernel
theorem d_Fr_takesTree_24 : decode c_Fr_takesTree 24 = .ok (.invokevirtual 25, 3) := by decide +kernel
theorem d_Fr_takesTree_27 : decode c_Fr_takesTree 27 = .ok (.ireturn, 1) := by decide +kernel
theorem d_Fr_takesTree_28 : decode c_Fr_takesTree 28 = .ok (.aload_n 0, 1) := by decide +kernel
theorem d_Fr_takesTree_29 : decode c_Fr_takesTree 29 = .ok (.getfield 29, 3) := by decide +kernel
theorem d_Fr_takesTree_32 : decode c_Fr_takesTree 32 = .ok (.iload_n 3, 1) := by decide +kernel
theorem d_Fr_takesTree_33 : decode c_Fr_takesTree 33 = .ok (.iconst (-1), 1) := by decide +kernel
theorem d_Fr_takesTree_34 : decode c_Fr_takesTree 34 = .ok (.iconst (-1), 1) := by decide +kernel
theorem d_Fr_takesTree_35 : decode c_Fr_takesTree 35 = .ok (.iconst (-1), 1) := by decide +kernel
theorem d_Fr_takesTree_36 : decode c_Fr_takesTree 36 = .ok (.invokevirtual 33, 3) := by decide +kernel
theorem d_Fr_takesTree_39 : decode c_Fr_takesTree 39 = .ok (.ifCond .ne 5, 3) := by decide +kernel
theorem d_Fr_takesTree_42 : decode c_Fr_takesTree 42 = .ok (.iconst 0, 1) := by decide +kernel
theorem d_Fr_takesTree_43 : decode c_Fr_takesTree 43 = .ok (.ireturn, 1) := by decide +kernel
theorem d_Fr_takesTree_44 : decode c_Fr_takesTree 44 = .ok (.aload_n 0, 1) := by decide +kernel
theorem d_Fr_takesTree_45 : decode c_Fr_takesTree 45 = .ok (.getfield 9, 3) := by decide +kernel
theorem d_Fr_takesTree_48 : decode c_Fr_takesTree 48 = .ok (.iload_n 2, 1) := by decide +kernel
theorem d_Fr_takesTree_49 : decode c_Fr_takesTree 49 = .ok (.invokevirtual 39, 3) := by decide +kernel
theorem d_Fr_takesTree_52 : decode c_Fr_takesTree 52 = .ok (.aload_n 0, 1) := by decide +kernel
theorem d_Fr_takesTree_53 : decode c_Fr_takesTree 53 = .ok (.iload_n 1, 1) := by decide +kernel
theorem d_Fr_takesTree_54 : decode c_Fr_takesTree 54 = .ok (.invokevirtual 43, 3) := by decide +kernel
theorem d_Fr_takesTree_57 : decode c_Fr_takesTree 57 = .ok (.ifCond .eq 15, 3) := by decide +kernel
theorem d_Fr_takesTree_60 : decode c_Fr_takesTree 60 = .ok (.aload_n 0, 1) := by decide +kernel
theorem d_Fr_takesTree_61 : decode c_Fr_takesTree 61 = .ok (.iload_n 1, 1) := by decide +kernel
theorem d_Fr_takesTree_62 : decode c_Fr_takesTree 62 = .ok (.invokevirtual 43, 3) := by decide +kernel
theorem d_Fr_takesTree_65 : decode c_Fr_takesTree 65 = .ok (.ifCond .eq 7, 3) := by decide +kernel
theorem d_Fr_takesTree_68 : decode c_Fr_takesTree 68 = .ok (.iconst 1, 1) := by decide +kernel
theorem d_Fr_takesTree_69 : decode c_Fr_takesTree 69 = .ok (.goto 4, 3) := by decide +kernel
theorem d_Fr_takesTree_72 : decode c_Fr_takesTree 72 = .ok (.iconst 0, 1) := by decide +kernel
theorem d_Fr_takesTree_73 : decode c_Fr_takesTree 73 = .ok (.ireturn, 1) := by decide +kernel
theorem d_Fr_takesBranch_0 : decode c_Fr_takesBranch 0 = .ok (.aload_n 0, 1) := by decide +kernel
theorem d_Fr_takesBranch_1 : decode c_Fr_takesBranch 1 = .ok (.getfield 9, 3) := by decide +kernel
theorem d_Fr_takesBranch_4 : decode c_Fr_takesBranch 4 = .ok (.bipush 32, 2) := by decide +kernel
theorem d_Fr_takesBranch_6 : decode c_Fr_takesBranch 6 = .ok (.invokevirtual 46, 3) := by decide +kernel
theorem d_Fr_takesBranch_9 : decode c_Fr_takesBranch 9 = .ok (.ifCond .eq 71, 3) := by decide +kernel
theorem d_Fr_takesBranch_12 : decode c_Fr_takesBranch 12 = .ok (.iload_n 1, 1) := by decide +kernel
theorem d_Fr_takesBranch_13 : decode c_Fr_takesBranch 13 = .ok (.bipush 20, 2) := by decide +kernel
theorem d_Fr_takesBranch_15 : decode c_Fr_takesBranch 15 = .ok (.if_icmp .ge 65, 3) := by decide +kernel
theorem d_Fr_takesBranch_18 : decode c_Fr_takesBranch 18 = .ok (.aload_n 0, 1) := by decide +kernel
theorem d_Fr_takesBranch_19 : decode c_Fr_takesBranch 19 = .ok (.getfield 9, 3) := by decide +kernel
theorem d_Fr_takesBranch_22 : decode c_Fr_takesBranch 22 = .ok (.bipush 40, 2) := by decide +kernel
theorem d_Fr_takesBranch_24 : decode c_Fr_takesBranch 24 = .ok (.invokevirtual 46, 3) := by decide +kernel
theorem d_Fr_takesBranch_27 : decode c_Fr_takesBranch 27 = .ok (.ifCond .eq 53, 3) := by decide +kernel
theorem d_Fr_takesBranch_30 : decode c_Fr_takesBranch 30 = .ok (.aload_n 0, 1) := by decide +kernel
theorem d_Fr_takesBranch_31 : decode c_Fr_takesBranch 31 = .ok (.getfield 9, 3) := by decide +kernel
theorem d_Fr_takesBranch_34 : decode c_Fr_takesBranch 34 = .ok (.bipush 32, 2) := by decide +kernel
theorem d_Fr_takesBranch_36 : decode c_Fr_takesBranch 36 = .ok (.invokevirtual 46, 3) := by decide +kernel
theorem d_Fr_takesBranch_39 : decode c_Fr_takesBranch 39 = .ok (.ifCond .eq 41, 3) := by decide +kernel
theorem d_Fr_takesBranch_42 : decode c_Fr_takesBranch 42 = .ok (.aload_n 0, 1) := by decide +kernel
theorem d_Fr_takesBranch_43 : decode c_Fr_takesBranch 43 = .ok (.iload_n 1, 1) := by decide +kernel
theorem d_Fr_takesBranch_44 : decode c_Fr_takesBranch 44 = .ok (.iconst 1, 1) := by decide +kernel
theorem d_Fr_takesBranch_45 : decode c_Fr_takesBranch 45 = .ok (.iadd, 1) := by decide +kernel
theorem d_Fr_takesBranch_46 : decode c_Fr_takesBranch 46 = .ok (.invokevirtual 49, 3) := by decide +kernel
theorem d_Fr_takesBranch_49 : decode c_Fr_takesBranch 49 = .ok (.ifCond .eq 31, 3) := by decide +kernel
theorem d_Fr_takesBranch_52 : decode c_Fr_takesBranch 52 = .ok (.aload_n 0, 1) := by decide +kernel
theorem d_Fr_takesBranch_53 : decode c_Fr_takesBranch 53 = .ok (.getfield 9, 3) := by decide +kernel
theorem d_Fr_takesBranch_56 : decode c_Fr_takesBranch 56 = .ok (.bipush 32, 2) := by decide +kernel
theorem d_Fr_takesBranch_58 : decode c_Fr_takesBranch 58 = .ok (.invokevirtual 46, 3) := by decide +kernel
theorem d_Fr_takesBranch_61 : decode c_Fr_takesBranch 61 = .ok (.ifCond .eq 19, 3) := by decide +kernel
theorem d_Fr_takesBranch_64 : decode c_Fr_takesBranch 64 = .ok (.aload_n 0, 1) := by decide +kernel
theorem d_Fr_takesBranch_65 : decode c_Fr_takesBranch 65 = .ok (.getfield 9, 3) := by decide +kernel
theorem d_Fr_takesBranch_68 : decode c_Fr_takesBranch 68 = .ok (.bipush 41, 2) := by decide +kernel
theorem d_Fr_takesBranch_70 : decode c_Fr_takesBranch 70 = .ok (.invokevirtual 46, 3) := by decide +kernel
theorem d_Fr_takesBranch_73 : decode c_Fr_takesBranch 73 = .ok (.ifCond .eq 7, 3) := by decide +kernel
theorem d_Fr_takesBranch_76 : decode c_Fr_takesBranch 76 = .ok (.iconst 1, 1) := by decide +kernel
theorem d_Fr_takesBranch_77 : decode c_Fr_takesBranch 77 = .ok (.goto 4, 3) := by decide +kernel
theorem d_Fr_takesBranch_80 : decode c_Fr_takesBranch 80 = .ok (.iconst 0, 1) := by decide +kernel
theorem d_Fr_takesBranch_81 : decode c_Fr_takesBranch 81 = .ok (.ireturn, 1) := by decide +kernel
theorem d_Fr_takesLeaf_0 : decode c_Fr_takesLeaf 0 = .ok (.aload_n 0, 1) := by decide +kernel
theorem d_Fr_takesLeaf_1 : decode c_Fr_takesLeaf 1 = .ok (.invokevirtual 52, 3) := by decide +kernel
theorem d_Fr_takesLeaf_4 : decode c_Fr_takesLeaf 4 = .ok (.istore_n 2, 1) := by decide +kernel
theorem d_Fr_takesLeaf_5 : decode c_Fr_takesLeaf 5 = .ok (.iload_n 2, 1) := by decide +kernel
theorem d_Fr_takesLeaf_6 : decode c_Fr_takesLeaf 6 = .ok (.iconst (-1), 1) := by decide +kernel
theorem d_Fr_takesLeaf_7 : decode c_Fr_takesLeaf 7 = .ok (.if_icmp .eq 15, 3) := by decide +kernel
theorem d_Fr_takesLeaf_10 : decode c_Fr_takesLeaf 10 = .ok (.aload_n 0, 1) := by decide +kernel
theorem d_Fr_takesLeaf_11 : decode c_Fr_takesLeaf 11 = .ok (.getfield 9, 3) := by decide +kernel
theorem d_Fr_takesLeaf_14 : decode c_Fr_takesLeaf 14 = .ok (.bipush 32, 2) := by decide +kernel
theorem d_Fr_takesLeaf_16 : decode c_Fr_takesLeaf 16 = .ok (.invokevirtual 46, 3) := by decide +kernel
theorem d_Fr_takesLeaf_19 : decode c_Fr_takesLeaf 19 = .ok (.ifCond .ne 5, 3) := by decide +kernel
theorem d_Fr_takesLeaf_22 : decode c_Fr_takesLeaf 22 = .ok (.iconst 0, 1) := by decide +kernel
theorem d_Fr_takesLeaf_23 : decode c_Fr_takesLeaf 23 = .ok (.ireturn, 1) := by decide +kernel
theorem d_Fr_takesLeaf_24 : decode c_Fr_takesLeaf 24 = .ok (.aload_n 0, 1) := by decide +kernel
theorem d_Fr_takesLeaf_25 : decode c_Fr_takesLeaf 25 = .ok (.getfield 9, 3) := by decide +kernel
theorem d_Fr_takesLeaf_28 : decode c_Fr_takesLeaf 28 = .ok (.invokevirtual 55, 3) := by decide +kernel
theorem d_Fr_takesLeaf_31 : decode c_Fr_takesLeaf 31 = .ok (.istore_n 3, 1) := by decide +kernel
theorem d_Fr_takesLeaf_32 : decode c_Fr_takesLeaf 32 = .ok (.iload_n 3, 1) := by decide +kernel
theorem d_Fr_takesLeaf_33 : decode c_Fr_takesLeaf 33 = .ok (.iconst (-1), 1) := by decide +kernel
theorem d_Fr_takesLeaf_34 : decode c_Fr_takesLeaf 34 = .ok (.if_icmp .ne 5, 3) := by decide +kernel
theorem d_Fr_takesLeaf_37 : decode c_Fr_takesLeaf 37 = .ok (.iconst 0, 1) := by decide +kernel
theorem d_Fr_takesLeaf_38 : decode c_Fr_takesLeaf 38 = .ok (.ireturn, 1) := by decide +kernel
theorem d_Fr_takesLeaf_39 : decode c_Fr_takesLeaf 39 = .ok (.iload_n 1, 1) := by decide +kernel
theorem d_Fr_takesLeaf_40 : decode c_Fr_takesLeaf 40 = .ok (.ifCond .le 28, 3) := by decide +kernel
theorem d_Fr_takesLeaf_43 : decode c_Fr_takesLeaf 43 = .ok (.aload_n 0, 1) := by decide +kernel
theorem d_Fr_takesLeaf_44 : decode c_Fr_takesLeaf 44 = .ok (.getfield 9, 3) := by decide +kernel
theorem d_Fr_takesLeaf_47 : decode c_Fr_takesLeaf 47 = .ok (.aload_n 0, 1) := by decide +kernel
theorem d_Fr_takesLeaf_48 : decode c_Fr_takesLeaf 48 = .ok (.getfield 9, 3) := by decide +kernel
theorem d_Fr_takesLeaf_51 : decode c_Fr_takesLeaf 51 = .ok (.invokevirtual 58, 3) := by decide +kernel
theorem d_Fr_takesLeaf_54 : decode c_Fr_takesLeaf 54 = .ok (.iconst 1, 1) := by decide +kernel
theorem d_Fr_takesLeaf_55 : decode c_Fr_takesLeaf 55 = .ok (.iadd, 1) := by decide +kernel
theorem d_Fr_takesLeaf_56 : decode c_Fr_takesLeaf 56 = .ok (.invokevirtual 61, 3) := by decide +kernel
theorem d_Fr_takesLeaf_59 : decode c_Fr_takesLeaf 59 = .ok (.bipush 41, 2) := by decide +kernel
theorem d_Fr_takesLeaf_61 : decode c_Fr_takesLeaf 61 = .ok (.if_icmp .ne 7, 3) := by decide +kernel
theorem d_Fr_takesLeaf_64 : decode c_Fr_takesLeaf 64 = .ok (.iconst 1, 1) := by decide +kernel
theorem d_Fr_takesLeaf_65 : decode c_Fr_takesLeaf 65 = .ok (.goto 4, 3) := by decide +kernel
theorem d_Fr_takesLeaf_68 : decode c_Fr_takesLeaf 68 = .ok (.iconst 0, 1) := by decide +kernel
theorem d_Fr_takesLeaf_69 : decode c_Fr_takesLeaf 69 = .ok (.istore 4, 2) := by decide +kernel
theorem d_Fr_takesLeaf_71 : decode c_Fr_takesLeaf 71 = .ok (.iload 4, 2) := by decide +kernel
theorem d_Fr_takesLeaf_73 : decode c_Fr_takesLeaf 73 = .ok (.ifCond .ne 15, 3) := by decide +kernel
theorem d_Fr_takesLeaf_76 : decode c_Fr_takesLeaf 76 = .ok (.aload_n 0, 1) := by decide +kernel
theorem d_Fr_takesLeaf_77 : decode c_Fr_takesLeaf 77 = .ok (.getfield 9, 3) := by decide +kernel
theorem d_Fr_takesLeaf_80 : decode c_Fr_takesLeaf 80 = .ok (.bipush 32, 2) := by decide +kernel
theorem d_Fr_takesLeaf_82 : decode c_Fr_takesLeaf 82 = .ok (.invokevirtual 46, 3) := by decide +kernel
theorem d_Fr_takesLeaf_85 : decode c_Fr_takesLeaf 85 = .ok (.ifCond .ne 15, 3) := by decide +kernel
theorem d_Fr_takesLeaf_88 : decode c_Fr_takesLeaf 88 = .ok (.aload_n 0, 1) := by decide +kernel
theorem d_Fr_takesLeaf_89 : decode c_Fr_takesLeaf 89 = .ok (.getfield 29, 3) := by decide +kernel
theorem d_Fr_takesLeaf_92 : decode c_Fr_takesLeaf 92 = .ok (.iconst 0, 1) := by decide +kernel
theorem d_Fr_takesLeaf_93 : decode c_Fr_takesLeaf 93 = .ok (.iload_n 2, 1) := by decide +kernel
theorem d_Fr_takesLeaf_94 : decode c_Fr_takesLeaf 94 = .ok (.iload_n 3, 1) := by decide +kernel
theorem d_Fr_takesLeaf_95 : decode c_Fr_takesLeaf 95 = .ok (.iconst (-1), 1) := by decide +kernel
theorem d_Fr_takesLeaf_96 : decode c_Fr_takesLeaf 96 = .ok (.invokevirtual 33, 3) := by decide +kernel
theorem d_Fr_takesLeaf_99 : decode c_Fr_takesLeaf 99 = .ok (.ireturn, 1) := by decide +kernel
theorem d_Fr_takesLeaf_100 : decode c_Fr_takesLeaf 100 = .ok (.aload_n 0, 1) := by decide +kernel
theorem d_Fr_takesLeaf_101 : decode c_Fr_takesLeaf 101 = .ok (.getfield 9, 3) := by decide +kernel
theorem d_Fr_takesLeaf_104 : decode c_Fr_takesLeaf 104 = .ok (.bipush 42, 2) := by decide +kernel
theorem d_Fr_takesLeaf_106 : decode c_Fr_takesLeaf 106 = .ok (.invokevirtual 46, 3) := by decide +kernel
theorem d_Fr_takesLeaf_109 : decode c_Fr_takesLeaf 109 = .ok (.ifCond .eq 15, 3) := by decide +kernel
theorem d_Fr_takesLeaf_112 : decode c_Fr_takesLeaf 112 = .ok (.aload_n 0, 1) := by decide +kernel
theorem d_Fr_takesLeaf_113 : decode c_Fr_takesLeaf 113 = .ok (.getfield 29, 3) := by decide +kernel
theorem d_Fr_takesLeaf_116 : decode c_Fr_takesLeaf 116 = .ok (.iconst 2, 1) := by decide +kernel
theorem d_Fr_takesLeaf_117 : decode c_Fr_takesLeaf 117 = .ok (.iload_n 2, 1) := by decide +kernel
theorem d_Fr_takesLeaf_118 : decode c_Fr_takesLeaf 118 = .ok (.iload_n 3, 1) := by decide +kernel
theorem d_Fr_takesLeaf_119 : decode c_Fr_takesLeaf 119 = .ok (.iconst (-1), 1) := by decide +kernel
theorem d_Fr_takesLeaf_120 : decode c_Fr_takesLeaf 120 = .ok (.invokevirtual 33, 3) := by decide +kernel
theorem d_Fr_takesLeaf_123 : decode c_Fr_takesLeaf 123 = .ok (.ireturn, 1) := by decide +kernel
theorem d_Fr_takesLeaf_124 : decode c_Fr_takesLeaf 124 = .ok (.aload_n 0, 1) := by decide +kernel
theorem d_Fr_takesLeaf_125 : decode c_Fr_takesLeaf 125 = .ok (.iload_n 2, 1) := by decide +kernel
theorem d_Fr_takesLeaf_126 : decode c_Fr_takesLeaf 126 = .ok (.iload_n 3, 1) := by decide +kernel
theorem d_Fr_takesLeaf_127 : decode c_Fr_takesLeaf 127 = .ok (.invokevirtual 64, 3) := by decide +kernel
theorem d_Fr_takesLeaf_130 : decode c_Fr_takesLeaf 130 = .ok (.ireturn, 1) := by decide +kernel
theorem d_Ix_init_0 : decode c_Ix_init 0 = .ok (.aload_n 0, 1) := by decide +kernel
theorem d_Ix_init_1 : decode c_Ix_init 1 = .ok (.invokespecial 3, 3) := by decide +kernel
theorem d_Ix_init_4 : decode c_Ix_init 4 = .ok (.aload_n 0, 1) := by decide +kernel
theorem d_Ix_init_5 : decode c_Ix_init 5 = .ok (.bipush 64, 2) := by decide +kernel
theorem d_Ix_init_7 : decode c_Ix_init 7 = .ok (.newarray .int, 2) := by decide +kernel
theorem d_Ix_init_9 : decode c_Ix_init 9 = .ok (.putfield 9, 3) := by decide +kernel
theorem d_Ix_init_12 : decode c_Ix_init 12 = .ok (.aload_n 0, 1) := by decide +kernel
theorem d_Ix_init_13 : decode c_Ix_init 13 = .ok (.bipush 8, 2) := by decide +kernel
theorem d_Ix_init_15 : decode c_Ix_init 15 = .ok (.newarray .int, 2) := by decide +kernel
theorem d_Ix_init_17 : decode c_Ix_init 17 = .ok (.putfield 15, 3) := by decide +kernel
theorem d_Ix_init_20 : decode c_Ix_init 20 = .ok (.aload_n 0, 1) := by decide +kernel
theorem d_Ix_init_21 : decode c_Ix_init 21 = .ok (.bipush 8, 2) := by decide +kernel
theorem d_Ix_init_23 : decode c_Ix_init 23 = .ok (.newarray .boolean, 2) := by decide +kernel
theorem d_Ix_init_25 : decode c_Ix_init 25 = .ok (.putfield 18, 3) := by decide +kernel
theorem d_Ix_init_28 : decode c_Ix_init 28 = .ok (.aload_n 0, 1) := by decide +kernel
theorem d_Ix_init_29 : decode c_Ix_init 29 = .ok (.bipush 9, 2) := by decide +kernel
theorem d_Ix_init_31 : decode c_Ix_init 31 = .ok (.newarray .int, 2) := by decide +kernel
theorem d_Ix_init_33 : decode c_Ix_init 33 = .ok (.putfield 22, 3) := by decide +kernel
theorem d_Ix_init_36 : decode c_Ix_init 36 = .ok (.aload_n 0, 1) := by decide +kernel
theorem d_Ix_init_37 : decode c_Ix_init 37 = .ok (.iconst 0, 1) := by decide +kernel
theorem d_Ix_init_38 : decode c_Ix_init 38 = .ok (.putfield 25, 3) := by decide +kernel
theorem d_Ix_init_41 : decode c_Ix_init 41 = .ok (.return_, 1) := by decide +kernel
theorem d_Ix_has_0 : decode c_Ix_has 0 = .ok (.iload_n 1, 1) := by decide +kernel
theorem d_Ix_has_1 : decode c_Ix_has 1 = .ok (.ifCond .lt 21, 3) := by decide +kernel
theorem d_Ix_has_4 : decode c_Ix_has 4 = .ok (.iload_n 1, 1) := by decide +kernel
theorem d_Ix_has_5 : decode c_Ix_has 5 = .ok (.aload_n 0, 1) := by decide +kernel
theorem d_Ix_has_6 : decode c_Ix_has 6 = .ok (.getfield 25, 3) := by decide +kernel
theorem d_Ix_has_9 : decode c_Ix_has 9 = .ok (.if_icmp .ge 13, 3) := by decide +kernel
theorem d_Ix_has_12 : decode c_Ix_has 12 = .ok (.iload_n 1, 1) := by decide +kernel
theorem d_Ix_has_13 : decode c_Ix_has 13 = .ok (.bipush 8, 2) := by decide +kernel
theorem d_Ix_has_15 : decode c_Ix_has 15 = .ok (.if_icmp .ge 7, 3) := by decide +kernel
theorem d_Ix_has_18 : decode c_Ix_has 18 = .ok (.iconst 1, 1) := by decide +kernel
theorem d_Ix_has_19 : decode c_Ix_has 19 = .ok (.goto 4, 3) := by decide +kernel
theorem d_Ix_has_22 : decode c_Ix_has 22 = .ok (.iconst 0, 1) := by decide +kernel
theorem d_Ix_has_23 : decode c_Ix_has 23 = .ok (.ireturn, 1) := by decide +kernel
theorem d_Ix_turn_0 : decode c_Ix_turn 0 = .ok (.aload_n 0, 1) := by decide +kernel
theorem d_Ix_turn_1 : decode c_Ix_turn 1 = .ok (.iload_n 1, 1) := by decide +kernel
theorem d_Ix_turn_2 : decode c_Ix_turn 2 = .ok (.invokevirtual 29, 3) := by decide +kernel
theorem d_Ix_turn_5 : decode c_Ix_turn 5 = .ok (.ifCond .ne 5, 3) := by decide +kernel
theorem d_Ix_turn_8 : decode c_Ix_turn 8 = .ok (.iconst 0, 1) := by decide +kernel
theorem d_Ix_turn_9 : decode c_Ix_turn 9 = .ok (.ireturn, 1) := by decide +kernel
theorem d_Ix_turn_10 : decode c_Ix_turn 10 = .ok (.aload_n 0, 1) := by decide +kernel
theorem d_Ix_turn_11 : decode c_Ix_turn 11 = .ok (.getfield 18, 3) := by decide +kernel
theorem d_Ix_turn_14 : decode c_Ix_turn 14 = .ok (.iload_n 1, 1) := by decide +kernel
theorem d_Ix_turn_15 : decode c_Ix_turn 15 = .ok (.baload, 1) := by decide +kernel
theorem d_Ix_turn_16 : decode c_Ix_turn 16 = .ok (.istore_n 3, 1) := by decide +kernel
theorem d_Ix_turn_17 : decode c_Ix_turn 17 = .ok (.aload_n 0, 1) := by decide +kernel
theorem d_Ix_turn_18 : decode c_Ix_turn 18 = .ok (.getfield 18, 3) := by decide +kernel
theorem d_Ix_turn_21 : decode c_Ix_turn 21 = .ok (.iload_n 1, 1) := by decide +kernel
theorem d_Ix_turn_22 : decode c_Ix_turn 22 = .ok (.iload_n 2, 1) := by decide +kernel
theorem d_Ix_turn_23 : decode c_Ix_turn 23 = .ok (.bastore, 1) := by decide +kernel
theorem d_Ix_turn_24 : decode c_Ix_turn 24 = .ok (.iload_n 3, 1) := by decide +kernel
theorem d_Ix_turn_25 : decode c_Ix_turn 25 = .ok (.ireturn, 1) := by decide +kernel
theorem d_Ix_isBroken_0 : decode c_Ix_isBroken 0 = .ok (.iconst 0, 1) := by decide +kernel
theorem d_Ix_isBroken_1 : decode c_Ix_isBroken 1 = .ok (.istore_n 2, 1) := by decide +kernel
theorem d_Ix_isBroken_2 : decode c_Ix_isBroken 2 = .ok (.iload_n 2, 1) := by decide +kernel
theorem d_Ix_isBroken_3 : decode c_Ix_isBroken 3 = .ok (.aload_n 1, 1) := by decide +kernel
theorem d_Ix_isBroken_4 : decode c_Ix_isBroken 4 = .ok (.invokevirtual 33, 3) := by decide +kernel
theorem d_Ix_isBroken_7 : decode c_Ix_isBroken 7 = .ok (.if_icmp .ge 34, 3) := by decide +kernel
theorem d_Ix_isBroken_10 : decode c_Ix_isBroken 10 = .ok (.aload_n 1, 1) := by decide +kernel
theorem d_Ix_isBroken_11 : decode c_Ix_isBroken 11 = .ok (.iload_n 2, 1) := by decide +kernel
theorem d_Ix_isBroken_12 : decode c_Ix_isBroken 12 = .ok (.invokevirtual 39, 3) := by decide +kernel
theorem d_Ix_isBroken_15 : decode c_Ix_isBroken 15 = .ok (.istore_n 3, 1) := by decide +kernel
theorem d_Ix_isBroken_16 : decode c_Ix_isBroken 16 = .ok (.aload_n 0, 1) := by decide +kernel
theorem d_Ix_isBroken_17 : decode c_Ix_isBroken 17 = .ok (.iload_n 3, 1) := by decide +kernel
theorem d_Ix_isBroken_18 : decode c_Ix_isBroken 18 = .ok (.invokevirtual 29, 3) := by decide +kernel
theorem d_Ix_isBroken_21 : decode c_Ix_isBroken 21 = .ok (.ifCond .eq 14, 3) := by decide +kernel
theorem d_Ix_isBroken_24 : decode c_Ix_isBroken 24 = .ok (.aload_n 0, 1) := by decide +kernel
theorem d_Ix_isBroken_25 : decode c_Ix_isBroken 25 = .ok (.getfield 18, 3) := by decide +kernel
theorem d_Ix_isBroken_28 : decode c_Ix_isBroken 28 = .ok (.iload_n 3, 1) := by decide +kernel
theorem d_Ix_isBroken_29 : decode c_Ix_isBroken 29 = .ok (.baload, 1) := by decide +kernel
theorem d_Ix_isBroken_30 : decode c_Ix_isBroken 30 = .ok (.ifCond .ne 5, 3) := by decide +kernel
theorem d_Ix_isBroken_33 : decode c_Ix_isBroken 33 = .ok (.iconst 1, 1) := by decide +kernel
theorem d_Ix_isBroken_34 : decode c_Ix_isBroken 34 = .ok (.ireturn, 1) := by decide +kernel
theorem d_Ix_isBroken_35 : decode c_Ix_isBroken 35 = .ok (.iinc 2 1, 3) := by decide +kernel
theorem d_Ix_isBroken_38 : decode c_Ix_isBroken 38 = .ok (.goto (-36), 3) := by decide +kernel
theorem d_Ix_isBroken_41 : decode c_Ix_isBroken 41 = .ok (.iconst 0, 1) := by decide +kernel
theorem d_Ix_isBroken_42 : decode c_Ix_isBroken 42 = .ok (.ireturn, 1) := by decide +kernel
theorem d_Ix_register_0 : decode c_Ix_register 0 = .ok (.aload_n 1, 1) := by decide +kernel
theorem d_Ix_register_1 : decode c_Ix_register 1 = .ok (.iconst 0, 1) := by decide +kernel
theorem d_Ix_register_2 : decode c_Ix_register 2 = .ok (.invokevirtual 43, 3) := by decide +kernel
theorem d_Ix_register_5 : decode c_Ix_register 5 = .ok (.aload_n 1, 1) := by decide +kernel
theorem d_Ix_register_6 : decode c_Ix_register 6 = .ok (.invokevirtual 49, 3) := by decide +kernel
theorem d_Ix_register_9 : decode c_Ix_register 9 = .ok (.istore_n 2, 1) := by decide +kernel
theorem d_Ix_register_10 : decode c_Ix_register 10 = .ok (.aload_n 0, 1) := by decide +kernel
theorem d_Ix_register_11 : decode c_Ix_register 11 = .ok (.getfield 25, 3) := by decide +kernel
theorem d_Ix_register_14 : decode c_Ix_register 14 = .ok (.ifCond .lt 23, 3) := by decide +kernel
theorem d_Ix_register_17 : decode c_Ix_register 17 = .ok (.aload_n 0, 1) := by decide +kernel
theorem d_Ix_register_18 : decode c_Ix_register 18 = .ok (.getfield 25, 3) := by decide +kernel
theorem d_Ix_register_21 : decode c_Ix_register 21 = .ok (.bipush 8, 2) := by decide +kernel
theorem d_Ix_register_23 : decode c_Ix_register 23 = .ok (.if_icmp .ge 14, 3) := by decide +kernel
theorem d_Ix_register_26 : decode c_Ix_register 26 = .ok (.iload_n 2, 1) := by decide +kernel
theorem d_Ix_register_27 : decode c_Ix_register 27 = .ok (.iconst 1, 1) := by decide +kernel
theorem d_Ix_register_28 : decode c_Ix_register 28 = .ok (.if_icmp .lt 9, 3) := by decide +kernel
theorem d_Ix_register_31 : decode c_Ix_register 31 = .ok (.iload_n 2, 1) := by decide +kernel
theorem d_Ix_register_32 : decode c_Ix_register 32 = .ok (.bipush 8, 2) := by decide +kernel
theorem d_Ix_register_34 : decode c_Ix_register 34 = .ok (.if_icmp .le 5, 3) := by decide +kernel
theorem d_Ix_register_37 : decode c_Ix_register 37 = .ok (.iconst (-1), 1) := by decide +kernel
theorem d_Ix_register_38 : decode c_Ix_register 38 = .ok (.ireturn, 1) := by decide +kernel
theorem d_Ix_register_39 : decode c_Ix_register 39 = .ok (.aload_n 1, 1) := by decide +kernel
theorem d_Ix_register_40 : decode c_Ix_register 40 = .ok (.invokevirtual 52, 3) := by decide +kernel
theorem d_Ix_register_43 : decode c_Ix_register 43 = .ok (.iload_n 2, 1) := by decide +kernel
theorem d_Ix_register_44 : decode c_Ix_register 44 = .ok (.if_icmp .ne 7, 3) := by decide +kernel
theorem d_Ix_register_47 : decode c_Ix_register 47 = .ok (.iconst 1, 1) := by decide +kernel
theorem d_Ix_register_48 : decode c_Ix_register 48 = .ok (.goto 4, 3) := by decide +kernel
theorem d_Ix_register_51 : decode c_Ix_register 51 = .ok (.iconst 0, 1) := by decide +kernel
theorem d_Ix_register_52 : decode c_Ix_register 52 = .ok (.istore_n 3, 1) := by decide +kernel
theorem d_Ix_register_53 : decode c_Ix_register 53 = .ok (.iload_n 3, 1) := by decide +kernel
theorem d_Ix_register_54 : decode c_Ix_register 54 = .ok (.ifCond .eq 22, 3) := by decide +kernel
theorem d_Ix_register_57 : decode c_Ix_register 57 = .ok (.aload_n 1, 1) := by decide +kernel
theorem d_Ix_register_58 : decode c_Ix_register 58 = .ok (.iload_n 2, 1) := by decide +kernel
theorem d_Ix_register_59 : decode c_Ix_register 59 = .ok (.invokevirtual 55, 3) := by decide +kernel
theorem d_Ix_register_62 : decode c_Ix_register 62 = .ok (.iconst (-1), 1) := by decide +kernel
theorem d_Ix_register_63 : decode c_Ix_register 63 = .ok (.if_icmp .ne 13, 3) := by decide +kernel
theorem d_Ix_register_66 : decode c_Ix_register 66 = .ok (.aload_n 0, 1) := by decide +kernel
theorem d_Ix_register_67 : decode c_Ix_register 67 = .ok (.aload_n 1, 1) := by decide +kernel
theorem d_Ix_register_68 : decode c_Ix_register 68 = .ok (.iload_n 2, 1) := by decide +kernel
theorem d_Ix_register_69 : decode c_Ix_register 69 = .ok (.invokevirtual 58, 3) := by decide +kernel
theorem d_Ix_register_72 : decode c_Ix_register 72 = .ok (.iconst (-1), 1) := by decide +kernel
theorem d_Ix_register_73 : decode c_Ix_register 73 = .ok (.if_icmp .eq 5, 3) := by decide +kernel
theorem d_Ix_register_76 : decode c_Ix_register 76 = .ok (.iconst (-1), 1) := by decide +kernel
theorem d_Ix_register_77 : decode c_Ix_register 77 = .ok (.ireturn, 1) := by decide +kernel
theorem d_Ix_register_78 : decode c_Ix_register 78 = .ok (.iconst 0, 1) := by decide +kernel
theorem d_Ix_register_79 : decode c_Ix_register 79 = .ok (.istore 4, 2) := by decide +kernel
theorem d_Ix_register_81 : decode c_Ix_register 81 = .ok (.iload 4, 2) := by decide +kernel
theorem d_Ix_register_83 : decode c_Ix_register 83 = .ok (.iload_n 2, 1) := by decide +kernel
theorem d_Ix_register_84 : decode c_Ix_register 84 = .ok (.if_icmp .ge 30, 3) := by decide +kernel
theorem d_Ix_register_87 : decode c_Ix_register 87 = .ok (.aload_n 0, 1) := by decide +kernel
theorem d_Ix_register_88 : decode c_Ix_register 88 = .ok (.getfield 9, 3) := by decide +kernel
theorem d_Ix_register_91 : decode c_Ix_register 91 = .ok (.aload_n 0, 1) := by decide +kernel
theorem d_Ix_register_92 : decode c_Ix_register 92 = .ok (.getfield 25, 3) := by decide +kernel
theorem d_Ix_register_95 : decode c_Ix_register 95 = .ok (.bipush 8, 2) := by decide +kernel
theorem d_Ix_register_97 : decode c_Ix_register 97 = .ok (.imul, 1) := by decide +kernel
theorem d_Ix_register_98 : decode c_Ix_register 98 = .ok (.iload 4, 2) := by decide +kernel
theorem d_Ix_register_100 : decode c_Ix_register 100 = .ok (.iadd, 1) := by decide +kernel
theorem d_Ix_register_101 : decode c_Ix_register 101 = .ok (.aload_n 1, 1) := by decide +kernel
theorem d_Ix_register_102 : decode c_Ix_register 102 = .ok (.iload 4, 2) := by decide +kernel
theorem d_Ix_register_104 : decode c_Ix_register 104 = .ok (.invokevirtual 62, 3) := by decide +kernel
theorem d_Ix_register_107 : decode c_Ix_register 107 = .ok (.iastore, 1) := by decide +kernel
theorem d_Ix_register_108 : decode c_Ix_register 108 = .ok (.iinc 4 1, 3) := by decide +kernel
theorem d_Ix_register_111 : decode c_Ix_register 111 = .ok (.goto (-30), 3) := by decide +kernel
theorem d_Ix_register_114 : decode c_Ix_register 114 = .ok (.aload_n 0, 1) := by decide +kernel
theorem d_Ix_register_115 : decode c_Ix_register 115 = .ok (.getfield 15, 3) := by decide +kernel
theorem d_Ix_register_118 : decode c_Ix_register 118 = .ok (.aload_n 0, 1) := by decide +kernel
theorem d_Ix_register_119 : decode c_Ix_register 119 = .ok (.getfield 25, 3) := by decide +kernel
theorem d_Ix_register_122 : decode c_Ix_register 122 = .ok (.iload_n 2, 1) := by decide +kernel
theorem d_Ix_register_123 : decode c_Ix_register 123 = .ok (.iastore, 1) := by decide +kernel
theorem d_Ix_register_124 : decode c_Ix_register 124 = .ok (.aload_n 0, 1) := by decide +kernel
theorem d_Ix_register_125 : decode c_Ix_register 125 = .ok (.getfield 18, 3) := by decide +kernel
theorem d_Ix_register_128 : decode c_Ix_register 128 = .ok (.aload_n 0, 1) := by decide +kernel
theorem d_Ix_register_129 : decode c_Ix_register 129 = .ok (.getfield 25, 3) := by decide +kernel
theorem d_Ix_register_132 : decode c_Ix_register 132 = .ok (.iconst 1, 1) := by decide +kernel
theorem d_Ix_register_133 : decode c_Ix_register 133 = .ok (.bastore, 1) := by decide +kernel
theorem d_Ix_register_134 : decode c_Ix_register 134 = .ok (.aload_n 0, 1) := by decide +kernel
theorem d_Ix_register_135 : decode c_Ix_register 135 = .ok (.dup, 1) := by decide +kernel
theorem d_Ix_register_136 : decode c_Ix_register 136 = .ok (.getfield 25, 3) := by decide +kernel
theorem d_Ix_register_139 : decode c_Ix_register 139 = .ok (.iconst 1, 1) := by decide +kernel
theorem d_Ix_register_140 : decode c_Ix_register 140 = .ok (.iadd, 1) := by decide +kernel
theorem d_Ix_register_141 : decode c_Ix_register 141 = .ok (.putfield 25, 3) := by decide +kernel
theorem d_Ix_register_144 : decode c_Ix_register 144 = .ok (.aload_n 0, 1) := by decide +kernel
theorem d_Ix_register_145 : decode c_Ix_register 145 = .ok (.getfield 25, 3) := by decide +kernel
theorem d_Ix_register_148 : decode c_Ix_register 148 = .ok (.iconst 1, 1) := by decide +kernel
theorem d_Ix_register_149 : decode c_Ix_register 149 = .ok (.isub, 1) := by decide +kernel
theorem d_Ix_register_150 : decode c_Ix_register 150 = .ok (.ireturn, 1) := by decide +kernel
theorem d_Ix_find_0 : decode c_Ix_find 0 = .ok (.iconst 0, 1) := by decide +kernel
theorem d_Ix_find_1 : decode c_Ix_find 1 = .ok (.istore_n 3, 1) := by decide +kernel
theorem d_Ix_find_2 : decode c_Ix_find 2 = .ok (.iload_n 3, 1) := by decide +kernel
theorem d_Ix_find_3 : decode c_Ix_find 3 = .ok (.aload_n 0, 1) := by decide +kernel
theorem d_Ix_find_4 : decode c_Ix_find 4 = .ok (.getfield 25, 3) := by decide +kernel
theorem d_Ix_find_7 : decode c_Ix_find 7 = .ok (.if_icmp .ge 21, 3) := by decide +kernel
theorem d_Ix_find_10 : decode c_Ix_find 10 = .ok (.aload_n 0, 1) := by decide +kernel
theorem d_Ix_find_11 : decode c_Ix_find 11 = .ok (.iload_n 3, 1) := by decide +kernel
theorem d_Ix_find_12 : decode c_Ix_find 12 = .ok (.aload_n 1, 1) := by decide +kernel
theorem d_Ix_find_13 : decode c_Ix_find 13 = .ok (.iload_n 2, 1) := by decide +kernel
theorem d_Ix_find_14 : decode c_Ix_find 14 = .ok (.invokevirtual 65, 3) := by decide +kernel
theorem d_Ix_find_17 : decode c_Ix_find 17 = .ok (.ifCond .eq 5, 3) := by decide +kernel
theorem d_Ix_find_20 : decode c_Ix_find 20 = .ok (.iload_n 3, 1) := by decide +kernel
theorem d_Ix_find_21 : decode c_Ix_find 21 = .ok (.ireturn, 1) := by decide +kernel
theorem d_Ix_find_22 : decode c_Ix_find 22 = .ok (.iinc 3 1, 3) := by decide +kernel
theorem d_Ix_find_25 : decode c_Ix_find 25 = .ok (.goto (-23), 3) := by decide +kernel
theorem d_Ix_find_28 : decode c_Ix_find 28 = .ok (.iconst (-1), 1) := by decide +kernel
theorem d_Ix_find_29 : decode c_Ix_find 29 = .ok (.ireturn, 1) := by decide +kernel
theorem d_Ix_isNameOf_0 : decode c_Ix_isNameOf 0 = .ok (.aload_n 2, 1) := by decide +kernel
theorem d_Ix_isNameOf_1 : decode c_Ix_isNameOf 1 = .ok (.invokevirtual 69, 3) := by decide +kernel
theorem d_Ix_isNameOf_4 : decode c_Ix_isNameOf 4 = .ok (.istore 4, 2) := by decide +kernel
theorem d_Ix_isNameOf_6 : decode c_Ix_isNameOf 6 = .ok (.aload_n 0, 1) := by decide +kernel
theorem d_Ix_isNameOf_7 : decode c_Ix_isNameOf 7 = .ok (.iload_n 1, 1) := by decide +kernel
theorem d_Ix_isNameOf_8 : decode c_Ix_isNameOf 8 = .ok (.invokevirtual 72, 3) := by decide +kernel
theorem d_Ix_isNameOf_11 : decode c_Ix_isNameOf 11 = .ok (.iload_n 3, 1) := by decide +kernel
theorem d_Ix_isNameOf_12 : decode c_Ix_isNameOf 12 = .ok (.iload 4, 2) := by decide +kernel
theorem d_Ix_isNameOf_14 : decode c_Ix_isNameOf 14 = .ok (.isub, 1) := by decide +kernel
theorem d_Ix_isNameOf_15 : decode c_Ix_isNameOf 15 = .ok (.if_icmp .eq 5, 3) := by decide +kernel
theorem d_Ix_isNameOf_18 : decode c_Ix_isNameOf 18 = .ok (.iconst 0, 1) := by decide +kernel
theorem d_Ix_isNameOf_19 : decode c_Ix_isNameOf 19 = .ok (.ireturn, 1) := by decide +kernel
theorem d_Ix_isNameOf_20 : decode c_Ix_isNameOf 20 = .ok (.iconst 0, 1) := by decide +kernel
theorem d_Ix_isNameOf_21 : decode c_Ix_isNameOf 21 = .ok (.istore 5, 2) := by decide +kernel
theorem d_Ix_isNameOf_23 : decode c_Ix_isNameOf 23 = .ok (.iload 5, 2) := by decide +kernel
theorem d_Ix_isNameOf_25 : decode c_Ix_isNameOf 25 = .ok (.aload_n 0, 1) := by decide +kernel
theorem d_Ix_isNameOf_26 : decode c_Ix_isNameOf 26 = .ok (.iload_n 1, 1) := by decide +kernel
theorem d_Ix_isNameOf_27 : decode c_Ix_isNameOf 27 = .ok (.invokevirtual 72, 3) := by decide +kernel
theorem d_Ix_isNameOf_30 : decode c_Ix_isNameOf 30 = .ok (.if_icmp .ge 30, 3) := by decide +kernel
theorem d_Ix_isNameOf_33 : decode c_Ix_isNameOf 33 = .ok (.aload_n 0, 1) := by decide +kernel
theorem d_Ix_isNameOf_34 : decode c_Ix_isNameOf 34 = .ok (.iload_n 1, 1) := by decide +kernel
theorem d_Ix_isNameOf_35 : decode c_Ix_isNameOf 35 = .ok (.iload 5, 2) := by decide +kernel
theorem d_Ix_isNameOf_37 : decode c_Ix_isNameOf 37 = .ok (.invokevirtual 75, 3) := by decide +kernel
theorem d_Ix_isNameOf_40 : decode c_Ix_isNameOf 40 = .ok (.aload_n 2, 1) := by decide +kernel
theorem d_Ix_isNameOf_41 : decode c_Ix_isNameOf 41 = .ok (.iload 4, 2) := by decide +kernel
theorem d_Ix_isNameOf_43 : decode c_Ix_isNameOf 43 = .ok (.iload 5, 2) := by decide +kernel
theorem d_Ix_isNameOf_45 : decode c_Ix_isNameOf 45 = .ok (.iadd, 1) := by decide +kernel
theorem d_Ix_isNameOf_46 : decode c_Ix_isNameOf 46 = .ok (.invokevirtual 62, 3) := by decide +kernel
theorem d_Ix_isNameOf_49 : decode c_Ix_isNameOf 49 = .ok (.if_icmp .eq 5, 3) := by decide +kernel
theorem d_Ix_isNameOf_52 : decode c_Ix_isNameOf 52 = .ok (.iconst 0, 1) := by decide +kernel
theorem d_Ix_isNameOf_53 : decode c_Ix_isNameOf 53 = .ok (.ireturn, 1) := by decide +kernel
theorem d_Ix_isNameOf_54 : decode c_Ix_isNameOf 54 = .ok (.iinc 5 1, 3) := by decide +kernel
theorem d_Ix_isNameOf_57 : decode c_Ix_isNameOf 57 = .ok (.goto (-34), 3) := by decide +kernel
theorem d_Ix_isNameOf_60 : decode c_Ix_isNameOf 60 = .ok (.iconst 1, 1) := by decide +kernel
theorem d_Ix_isNameOf_61 : decode c_Ix_isNameOf 61 = .ok (.ireturn, 1) := by decide +kernel
theorem d_Ix_lengthOf_0 : decode c_Ix_lengthOf 0 = .ok (.aload_n 0, 1) := by decide +kernel
theorem d_Ix_lengthOf_1 : decode c_Ix_lengthOf 1 = .ok (.iload_n 1, 1) := by decide +kernel
theorem d_Ix_lengthOf_2 : decode c_Ix_lengthOf 2 = .ok (.invokevirtual 29, 3) := by decide +kernel
theorem d_Ix_lengthOf_5 : decode c_Ix_lengthOf 5 = .ok (.ifCond .eq 12, 3) := by decide +kernel
theorem d_Ix_lengthOf_8 : decode c_Ix_lengthOf 8 = .ok (.aload_n 0, 1) := by decide +kernel
theorem d_Ix_lengthOf_9 : decode c_Ix_lengthOf 9 = .ok (.getfield 15, 3) := by decide +kernel
theorem d_Ix_lengthOf_12 : decode c_Ix_lengthOf 12 = .ok (.iload_n 1, 1) := by decide +kernel
theorem d_Ix_lengthOf_13 : decode c_Ix_lengthOf 13 = .ok (.iaload, 1) := by decide +kernel
theorem d_Ix_lengthOf_14 : decode c_Ix_lengthOf 14 = .ok (.goto 4, 3) := by decide +kernel
theorem d_Ix_lengthOf_17 : decode c_Ix_lengthOf 17 = .ok (.iconst 0, 1) := by decide +kernel
theorem d_Ix_lengthOf_18 : decode c_Ix_lengthOf 18 = .ok (.ireturn, 1) := by decide +kernel
theorem d_Ix_letterOf_0 : decode c_Ix_letterOf 0 = .ok (.aload_n 0, 1) := by decide +kernel
theorem d_Ix_letterOf_1 : decode c_Ix_letterOf 1 = .ok (.iload_n 1, 1) := by decide +kernel
theorem d_Ix_letterOf_2 : decode c_Ix_letterOf 2 = .ok (.invokevirtual 29, 3) := by decide +kernel
theorem d_Ix_letterOf_5 : decode c_Ix_letterOf 5 = .ok (.ifCond .eq 27, 3) := by decide +kernel
theorem d_Ix_letterOf_8 : decode c_Ix_letterOf 8 = .ok (.iload_n 2, 1) := by decide +kernel
theorem d_Ix_letterOf_9 : decode c_Ix_letterOf 9 = .ok (.ifCond .lt 23, 3) := by decide +kernel
theorem d_Ix_letterOf_12 : decode c_Ix_letterOf 12 = .ok (.iload_n 2, 1) := by decide +kernel
theorem d_Ix_letterOf_13 : decode c_Ix_letterOf 13 = .ok (.bipush 8, 2) := by decide +kernel
theorem d_Ix_letterOf_15 : decode c_Ix_letterOf 15 = .ok (.if_icmp .ge 17, 3) := by decide +kernel
theorem d_Ix_letterOf_18 : decode c_Ix_letterOf 18 = .ok (.aload_n 0, 1) := by decide +kernel
theorem d_Ix_letterOf_19 : decode c_Ix_letterOf 19 = .ok (.getfield 9, 3) := by decide +kernel
theorem d_Ix_letterOf_22 : decode c_Ix_letterOf 22 = .ok (.iload_n 1, 1) := by decide +kernel
theorem d_Ix_letterOf_23 : decode c_Ix_letterOf 23 = .ok (.bipush 8, 2) := by decide +kernel
theorem d_Ix_letterOf_25 : decode c_Ix_letterOf 25 = .ok (.imul, 1) := by decide +kernel
theorem d_Ix_letterOf_26 : decode c_Ix_letterOf 26 = .ok (.iload_n 2, 1) := by decide +kernel
theorem d_Ix_letterOf_27 : decode c_Ix_letterOf 27 = .ok (.iadd, 1) := by decide +kernel
theorem d_Ix_letterOf_28 : decode c_Ix_letterOf 28 = .ok (.iaload, 1) := by decide +kernel
theorem d_Ix_letterOf_29 : decode c_Ix_letterOf 29 = .ok (.goto 4, 3) := by decide +kernel
theorem d_Ix_letterOf_32 : decode c_Ix_letterOf 32 = .ok (.iconst (-1), 1) := by decide +kernel
theorem d_Ix_letterOf_33 : decode c_Ix_letterOf 33 = .ok (.ireturn, 1) := by decide +kernel
theorem d_Ix_nearest_0 : decode c_Ix_nearest 0 = .ok (.iconst (-1), 1) := by decide +kernel
theorem d_Ix_nearest_1 : decode c_Ix_nearest 1 = .ok (.istore_n 2, 1) := by decide +kernel
theorem d_Ix_nearest_2 : decode c_Ix_nearest 2 = .ok (.iconst 0, 1) := by decide +kernel
theorem d_Ix_nearest_3 : decode c_Ix_nearest 3 = .ok (.istore_n 3, 1) := by decide +kernel
theorem d_Ix_nearest_4 : decode c_Ix_nearest 4 = .ok (.aload_n 1, 1) := by decide +kernel
theorem d_Ix_nearest_5 : decode c_Ix_nearest 5 = .ok (.invokevirtual 79, 3) := by decide +kernel
theorem d_Ix_nearest_8 : decode c_Ix_nearest 8 = .ok (.ifCond .ne 5, 3) := by decide +kernel
theorem d_Ix_nearest_11 : decode c_Ix_nearest 11 = .ok (.iconst (-1), 1) := by decide +kernel
theorem d_Ix_nearest_12 : decode c_Ix_nearest 12 = .ok (.ireturn, 1) := by decide +kernel
theorem d_Ix_nearest_13 : decode c_Ix_nearest 13 = .ok (.iconst 0, 1) := by decide +kernel
theorem d_Ix_nearest_14 : decode c_Ix_nearest 14 = .ok (.istore 4, 2) := by decide +kernel
theorem d_Ix_nearest_16 : decode c_Ix_nearest 16 = .ok (.iload 4, 2) := by decide +kernel
theorem d_Ix_nearest_18 : decode c_Ix_nearest 18 = .ok (.aload_n 0, 1) := by decide +kernel
theorem d_Ix_nearest_19 : decode c_Ix_nearest 19 = .ok (.getfield 25, 3) := by decide +kernel
theorem d_Ix_nearest_22 : decode c_Ix_nearest 22 = .ok (.if_icmp .ge 35, 3) := by decide +kernel
theorem d_Ix_nearest_25 : decode c_Ix_nearest 25 = .ok (.aload_n 0, 1) := by decide +kernel
theorem d_Ix_nearest_26 : decode c_Ix_nearest 26 = .ok (.iload 4, 2) := by decide +kernel
theorem d_Ix_nearest_28 : decode c_Ix_nearest 28 = .ok (.aload_n 1, 1) := by decide +kernel
theorem d_Ix_nearest_29 : decode c_Ix_nearest 29 = .ok (.invokevirtual 82, 3) := by decide +kernel
theorem d_Ix_nearest_32 : decode c_Ix_nearest 32 = .ok (.istore 5, 2) := by decide +kernel
theorem d_Ix_nearest_34 : decode c_Ix_nearest 34 = .ok (.iload_n 2, 1) := by decide +kernel
theorem d_Ix_nearest_35 : decode c_Ix_nearest 35 = .ok (.iconst (-1), 1) := by decide +kernel
theorem d_Ix_nearest_36 : decode c_Ix_nearest 36 = .ok (.if_icmp .eq 9, 3) := by decide +kernel
theorem d_Ix_nearest_39 : decode c_Ix_nearest 39 = .ok (.iload 5, 2) := by decide +kernel
theorem d_Ix_nearest_41 : decode c_Ix_nearest 41 = .ok (.iload_n 3, 1) := by decide +kernel
theorem d_Ix_nearest_42 : decode c_Ix_nearest 42 = .ok (.if_icmp .ge 9, 3) := by decide +kernel
theorem d_Ix_nearest_45 : decode c_Ix_nearest 45 = .ok (.iload 4, 2) := by decide +kernel
theorem d_Ix_nearest_47 : decode c_Ix_nearest 47 = .ok (.istore_n 2, 1) := by decide +kernel
theorem d_Ix_nearest_48 : decode c_Ix_nearest 48 = .ok (.iload 5, 2) := by decide +kernel
theorem d_Ix_nearest_50 : decode c_Ix_nearest 50 = .ok (.istore_n 3, 1) := by decide +kernel
theorem d_Ix_nearest_51 : decode c_Ix_nearest 51 = .ok (.iinc 4 1, 3) := by decide +kernel
theorem d_Ix_nearest_54 : decode c_Ix_nearest 54 = .ok (.goto (-38), 3) := by decide +kernel
theorem d_Ix_nearest_57 : decode c_Ix_nearest 57 = .ok (.iload_n 2, 1) := by decide +kernel
theorem d_Ix_nearest_58 : decode c_Ix_nearest 58 = .ok (.ireturn, 1) := by decide +kernel
theorem d_Ix_changesTo_0 : decode c_Ix_changesTo 0 = .ok (.aload_n 0, 1) := by decide +kernel
theorem d_Ix_changesTo_1 : decode c_Ix_changesTo 1 = .ok (.iload_n 1, 1) := by decide +kernel
theorem d_Ix_changesTo_2 : decode c_Ix_changesTo 2 = .ok (.invokevirtual 72, 3) := by decide +kernel
theorem d_Ix_changesTo_5 : decode c_Ix_changesTo 5 = .ok (.istore_n 3, 1) := by decide +kernel
theorem d_Ix_changesTo_6 : decode c_Ix_changesTo 6 = .ok (.iconst 0, 1) := by decide +kernel
theorem d_Ix_changesTo_7 : decode c_Ix_changesTo 7 = .ok (.istore 4, 2) := by decide +kernel
theorem d_Ix_changesTo_9 : decode c_Ix_changesTo 9 = .ok (.iload 4, 2) := by decide +kernel
theorem d_Ix_changesTo_11 : decode c_Ix_changesTo 11 = .ok (.iload_n 3, 1) := by decide +kernel
theorem d_Ix_changesTo_12 : decode c_Ix_changesTo 12 = .ok (.if_icmp .gt 18, 3) := by decide +kernel
theorem d_Ix_changesTo_15 : decode c_Ix_changesTo 15 = .ok (.aload_n 0, 1) := by decide +kernel
theorem d_Ix_changesTo_16 : decode c_Ix_changesTo 16 = .ok (.getfield 22, 3) := by decide +kernel
theorem d_Ix_changesTo_19 : decode c_Ix_changesTo 19 = .ok (.iload 4, 2) := by decide +kernel
theorem d_Ix_changesTo_21 : decode c_Ix_changesTo 21 = .ok (.iload 4, 2) := by decide +kernel
theorem d_Ix_changesTo_23 : decode c_Ix_changesTo 23 = .ok (.iastore, 1) := by decide +kernel
theorem d_Ix_changesTo_24 : decode c_Ix_changesTo 24 = .ok (.iinc 4 1, 3) := by decide +kernel
theorem d_Ix_changesTo_27 : decode c_Ix_changesTo 27 = .ok (.goto (-18), 3) := by decide +kernel
theorem d_Ix_changesTo_30 : decode c_Ix_changesTo 30 = .ok (.iconst 0, 1) := by decide +kernel
theorem d_Ix_changesTo_31 : decode c_Ix_changesTo 31 = .ok (.istore 4, 2) := by decide +kernel
theorem d_Ix_changesTo_33 : decode c_Ix_changesTo 33 = .ok (.iload 4, 2) := by decide +kernel
theorem d_Ix_changesTo_35 : decode c_Ix_changesTo 35 = .ok (.aload_n 2, 1) := by decide +kernel
theorem d_Ix_changesTo_36 : decode c_Ix_changesTo 36 = .ok (.invokevirtual 79, 3) := by decide +kernel
theorem d_Ix_changesTo_39 : decode c_Ix_changesTo 39 = .ok (.if_icmp .ge 107, 3) := by decide +kernel
theorem d_Ix_changesTo_42 : decode c_Ix_changesTo 42 = .ok (.aload_n 0, 1) := by decide +kernel
theorem d_Ix_changesTo_43 : decode c_Ix_changesTo 43 = .ok (.getfield 22, 3) := by decide +kernel
theorem d_Ix_changesTo_46 : decode c_Ix_changesTo 46 = .ok (.iconst 0, 1) := by decide +kernel
theorem d_Ix_changesTo_47 : decode c_Ix_changesTo 47 = .ok (.iaload, 1) := by decide +kernel
theorem d_Ix_changesTo_48 : decode c_Ix_changesTo 48 = .ok (.istore 5, 2) := by decide +kernel
theorem d_Ix_changesTo_50 : decode c_Ix_changesTo 50 = .ok (.aload_n 0, 1) := by decide +kernel
theorem d_Ix_changesTo_51 : decode c_Ix_changesTo 51 = .ok (.getfield 22, 3) := by decide +kernel
theorem d_Ix_changesTo_54 : decode c_Ix_changesTo 54 = .ok (.iconst 0, 1) := by decide +kernel
theorem d_Ix_changesTo_55 : decode c_Ix_changesTo 55 = .ok (.iload 4, 2) := by decide +kernel
theorem d_Ix_changesTo_57 : decode c_Ix_changesTo 57 = .ok (.iconst 1, 1) := by decide +kernel
theorem d_Ix_changesTo_58 : decode c_Ix_changesTo 58 = .ok (.iadd, 1) := by decide +kernel
theorem d_Ix_changesTo_59 : decode c_Ix_changesTo 59 = .ok (.iastore, 1) := by decide +kernel
theorem d_Ix_changesTo_60 : decode c_Ix_changesTo 60 = .ok (.iconst 1, 1) := by decide +kernel
theorem d_Ix_changesTo_61 : decode c_Ix_changesTo 61 = .ok (.istore 6, 2) := by decide +kernel
theorem d_Ix_changesTo_63 : decode c_Ix_changesTo 63 = .ok (.iload 6, 2) := by decide +kernel
theorem d_Ix_changesTo_65 : decode c_Ix_changesTo 65 = .ok (.iload_n 3, 1) := by decide +kernel
theorem d_Ix_changesTo_66 : decode c_Ix_changesTo 66 = .ok (.if_icmp .gt 74, 3) := by decide +kernel
theorem d_Ix_changesTo_69 : decode c_Ix_changesTo 69 = .ok (.iload 5, 2) := by decide +kernel
theorem d_Ix_changesTo_71 : decode c_Ix_changesTo 71 = .ok (.aload_n 2, 1) := by decide +kernel
theorem d_Ix_changesTo_72 : decode c_Ix_changesTo 72 = .ok (.iload 4, 2) := by decide +kernel
theorem d_Ix_changesTo_74 : decode c_Ix_changesTo 74 = .ok (.invokevirtual 86, 3) := by decide +kernel
theorem d_Ix_changesTo_77 : decode c_Ix_changesTo 77 = .ok (.aload_n 0, 1) := by decide +kernel
theorem d_Ix_changesTo_78 : decode c_Ix_changesTo 78 = .ok (.iload_n 1, 1) := by decide +kernel
theorem d_Ix_changesTo_79 : decode c_Ix_changesTo 79 = .ok (.iload 6, 2) := by decide +kernel
theorem d_Ix_changesTo_81 : decode c_Ix_changesTo 81 = .ok (.iconst 1, 1) := by decide +kernel
theorem d_Ix_changesTo_82 : decode c_Ix_changesTo 82 = .ok (.isub, 1) := by decide +kernel
theorem d_Ix_changesTo_83 : decode c_Ix_changesTo 83 = .ok (.invokevirtual 75, 3) := by decide +kernel
theorem d_Ix_changesTo_86 : decode c_Ix_changesTo 86 = .ok (.if_icmp .ne 7, 3) := by decide +kernel
theorem d_Ix_changesTo_89 : decode c_Ix_changesTo 89 = .ok (.iconst 0, 1) := by decide +kernel
theorem d_Ix_changesTo_90 : decode c_Ix_changesTo 90 = .ok (.goto 4, 3) := by decide +kernel
theorem d_Ix_changesTo_93 : decode c_Ix_changesTo 93 = .ok (.iconst 1, 1) := by decide +kernel
theorem d_Ix_changesTo_94 : decode c_Ix_changesTo 94 = .ok (.iadd, 1) := by decide +kernel
theorem d_Ix_changesTo_95 : decode c_Ix_changesTo 95 = .ok (.istore 7, 2) := by decide +kernel
theorem d_Ix_changesTo_97 : decode c_Ix_changesTo 97 = .ok (.aload_n 0, 1) := by decide +kernel
theorem d_Ix_changesTo_98 : decode c_Ix_changesTo 98 = .ok (.getfield 22, 3) := by decide +kernel
theorem d_Ix_changesTo_101 : decode c_Ix_changesTo 101 = .ok (.iload 6, 2) := by decide +kernel
theorem d_Ix_changesTo_103 : decode c_Ix_changesTo 103 = .ok (.iaload, 1) := by decide +kernel
theorem d_Ix_changesTo_104 : decode c_Ix_changesTo 104 = .ok (.istore 5, 2) := by decide +kernel
theorem d_Ix_changesTo_106 : decode c_Ix_changesTo 106 = .ok (.aload_n 0, 1) := by decide +kernel
theorem d_Ix_changesTo_107 : decode c_Ix_changesTo 107 = .ok (.getfield 22, 3) := by decide +kernel
theorem d_Ix_changesTo_110 : decode c_Ix_changesTo 110 = .ok (.iload 6, 2) := by decide +kernel
theorem d_Ix_changesTo_112 : decode c_Ix_changesTo 112 = .ok (.iload 7, 2) := by decide +kernel
theorem d_Ix_changesTo_114 : decode c_Ix_changesTo 114 = .ok (.iload 5, 2) := by decide +kernel
theorem d_Ix_changesTo_116 : decode c_Ix_changesTo 116 = .ok (.aload_n 0, 1) := by decide +kernel
theorem d_Ix_changesTo_117 : decode c_Ix_changesTo 117 = .ok (.getfield 22, 3) := by decide +kernel
theorem d_Ix_changesTo_120 : decode c_Ix_changesTo 120 = .ok (.iload 6, 2) := by decide +kernel
theorem d_Ix_changesTo_122 : decode c_Ix_changesTo 122 = .ok (.iconst 1, 1) := by decide +kernel
theorem d_Ix_changesTo_123 : decode c_Ix_changesTo 123 = .ok (.isub, 1) := by decide +kernel
theorem d_Ix_changesTo_124 : decode c_Ix_changesTo 124 = .ok (.iaload, 1) := by decide +kernel
theorem d_Ix_changesTo_125 : decode c_Ix_changesTo 125 = .ok (.invokestatic 89, 3) := by decide +kernel
theorem d_Ix_changesTo_128 : decode c_Ix_changesTo 128 = .ok (.iconst 1, 1) := by decide +kernel
theorem d_Ix_changesTo_129 : decode c_Ix_changesTo 129 = .ok (.iadd, 1) := by decide +kernel
theorem d_Ix_changesTo_130 : decode c_Ix_changesTo 130 = .ok (.invokestatic 89, 3) := by decide +kernel
theorem d_Ix_changesTo_133 : decode c_Ix_changesTo 133 = .ok (.iastore, 1) := by decide +kernel
theorem d_Ix_changesTo_134 : decode c_Ix_changesTo 134 = .ok (.iinc 6 1, 3) := by decide +kernel
theorem d_Ix_changesTo_137 : decode c_Ix_changesTo 137 = .ok (.goto (-74), 3) := by decide +kernel
theorem d_Ix_changesTo_140 : decode c_Ix_changesTo 140 = .ok (.iinc 4 1, 3) := by decide +kernel
theorem d_Ix_changesTo_143 : decode c_Ix_changesTo 143 = .ok (.goto (-110), 3) := by decide +kernel
theorem d_Ix_changesTo_146 : decode c_Ix_changesTo 146 = .ok (.aload_n 0, 1) := by decide +kernel
theorem d_Ix_changesTo_147 : decode c_Ix_changesTo 147 = .ok (.getfield 22, 3) := by decide +kernel
theorem d_Ix_changesTo_150 : decode c_Ix_changesTo 150 = .ok (.iload_n 3, 1) := by decide +kernel
theorem d_Ix_changesTo_151 : decode c_Ix_changesTo 151 = .ok (.iaload, 1) := by decide +kernel
theorem d_Ix_changesTo_152 : decode c_Ix_changesTo 152 = .ok (.ireturn, 1) := by decide +kernel
theorem d_Rd_init_0 : decode c_Rd_init 0 = .ok (.aload_n 0, 1) := by decide +kernel
theorem d_Rd_init_1 : decode c_Rd_init 1 = .ok (.invokespecial 3, 3) := by decide +kernel
theorem d_Rd_init_4 : decode c_Rd_init 4 = .ok (.aload_n 0, 1) := by decide +kernel
theorem d_Rd_init_5 : decode c_Rd_init 5 = .ok (.aload_n 1, 1) := by decide +kernel
theorem d_Rd_init_6 : decode c_Rd_init 6 = .ok (.putfield 9, 3) := by decide +kernel
theorem d_Rd_init_9 : decode c_Rd_init 9 = .ok (.aload_n 0, 1) := by decide +kernel
theorem d_Rd_init_10 : decode c_Rd_init 10 = .ok (.aload_n 2, 1) := by decide +kernel
theorem d_Rd_init_11 : decode c_Rd_init 11 = .ok (.putfield 15, 3) := by decide +kernel
theorem d_Rd_init_14 : decode c_Rd_init 14 = .ok (.aload_n 0, 1) := by decide +kernel
theorem d_Rd_init_15 : decode c_Rd_init 15 = .ok (.aload_n 3, 1) := by decide +kernel
theorem d_Rd_init_16 : decode c_Rd_init 16 = .ok (.putfield 19, 3) := by decide +kernel
theorem d_Rd_init_19 : decode c_Rd_init 19 = .ok (.aload_n 0, 1) := by decide +kernel
theorem d_Rd_init_20 : decode c_Rd_init 20 = .ok (.aload 4, 2) := by decide +kernel
theorem d_Rd_init_22 : decode c_Rd_init 22 = .ok (.putfield 23, 3) := by decide +kernel
theorem d_Rd_init_25 : decode c_Rd_init 25 = .ok (.return_, 1) := by decide +kernel
theorem d_Rd_takeName_0 : decode c_Rd_takeName 0 = .ok (.aload_n 0, 1) := by decide +kernel
theorem d_Rd_takeName_1 : decode c_Rd_takeName 1 = .ok (.getfield 9, 3) := by decide +kernel
theorem d_Rd_takeName_4 : decode c_Rd_takeName 4 = .ok (.invokevirtual 27, 3) := by decide +kernel
theorem d_Rd_takeName_7 : decode c_Rd_takeName 7 = .ok (.istore_n 1, 1) := by decide +kernel
theorem d_Rd_takeName_8 : decode c_Rd_takeName 8 = .ok (.iload_n 1, 1) := by decide +kernel
theorem d_Rd_takeName_9 : decode c_Rd_takeName 9 = .ok (.aload_n 0, 1) := by decide +kernel
theorem d_Rd_takeName_10 : decode c_Rd_takeName 10 = .ok (.getfield 9, 3) := by decide +kernel
theorem d_Rd_takeName_13 : decode c_Rd_takeName 13 = .ok (.invokevirtual 33, 3) := by decide +kernel
theorem d_Rd_takeName_16 : decode c_Rd_takeName 16 = .ok (.if_icmp .ne 5, 3) := by decide +kernel
theorem d_Rd_takeName_19 : decode c_Rd_takeName 19 = .ok (.iconst (-1), 1) := by decide +kernel
theorem d_Rd_takeName_20 : decode c_Rd_takeName 20 = .ok (.ireturn, 1) := by decide +kernel
theorem d_Rd_takeName_21 : decode c_Rd_takeName 21 = .ok (.aload_n 0, 1) := by decide +kernel
theorem d_Rd_takeName_22 : decode c_Rd_takeName 22 = .ok (.getfield 15, 3) := by decide +kernel
theorem d_Rd_takeName_25 : decode c_Rd_takeName 25 = .ok (.aload_n 0, 1) := by decide +kernel
theorem d_Rd_takeName_26 : decode c_Rd_takeName 26 = .ok (.getfield 9, 3) := by decide +kernel
theorem d_Rd_takeName_29 : decode c_Rd_takeName 29 = .ok (.iload_n 1, 1) := by decide +kernel
theorem d_Rd_takeName_30 : decode c_Rd_takeName 30 = .ok (.invokevirtual 36, 3) := by decide +kernel
theorem d_Rd_takeName_33 : decode c_Rd_takeName 33 = .ok (.istore_n 2, 1) := by decide +kernel
theorem d_Rd_takeName_34 : decode c_Rd_takeName 34 = .ok (.iload_n 2, 1) := by decide +kernel
theorem d_Rd_takeName_35 : decode c_Rd_takeName 35 = .ok (.iconst (-1), 1) := by decide +kernel
theorem d_Rd_takeName_36 : decode c_Rd_takeName 36 = .ok (.if_icmp .ne 17, 3) := by decide +kernel
theorem d_Rd_takeName_39 : decode c_Rd_takeName 39 = .ok (.aload_n 0, 1) := by decide +kernel
theorem d_Rd_takeName_40 : decode c_Rd_takeName 40 = .ok (.getfield 19, 3) := by decide +kernel
theorem d_Rd_takeName_43 : decode c_Rd_takeName 43 = .ok (.aload_n 0, 1) := by decide +kernel
theorem d_Rd_takeName_44 : decode c_Rd_takeName 44 = .ok (.getfield 9, 3) := by decide +kernel
theorem d_Rd_takeName_47 : decode c_Rd_takeName 47 = .ok (.iload_n 1, 1) := by decide +kernel
theorem d_Rd_takeName_48 : decode c_Rd_takeName 48 = .ok (.invokevirtual 42, 3) := by decide +kernel
theorem d_Rd_takeName_51 : decode c_Rd_takeName 51 = .ok (.iconst (-1), 1) := by decide +kernel
theorem d_Rd_takeName_52 : decode c_Rd_takeName 52 = .ok (.ireturn, 1) := by decide +kernel
theorem d_Rd_takeName_53 : decode c_Rd_takeName 53 = .ok (.aload_n 0, 1) := by decide +kernel
theorem d_Rd_takeName_54 : decode c_Rd_takeName 54 = .ok (.getfield 23, 3) := by decide +kernel
theorem d_Rd_takeName_57 : decode c_Rd_takeName 57 = .ok (.invokevirtual 48, 3) := by decide +kernel
theorem d_Rd_takeName_60 : decode c_Rd_takeName 60 = .ok (.ifCond .eq 5, 3) := by decide +kernel
theorem d_Rd_takeName_63 : decode c_Rd_takeName 63 = .ok (.iconst (-1), 1) := by decide +kernel
theorem d_Rd_takeName_64 : decode c_Rd_takeName 64 = .ok (.ireturn, 1) := by decide +kernel
theorem d_Rd_takeName_65 : decode c_Rd_takeName 65 = .ok (.aload_n 0, 1) := by decide +kernel
theorem d_Rd_takeName_66 : decode c_Rd_takeName 66 = .ok (.getfield 9, 3) := by decide +kernel
theorem d_Rd_takeName_69 : decode c_Rd_takeName 69 = .ok (.iload_n 1, 1) := by decide +kernel
theorem d_Rd_takeName_70 : decode c_Rd_takeName 70 = .ok (.invokevirtual 54, 3) := by decide +kernel
theorem d_Rd_takeName_73 : decode c_Rd_takeName 73 = .ok (.iload_n 2, 1) := by decide +kernel
theorem d_Rd_takeName_74 : decode c_Rd_takeName 74 = .ok (.ireturn, 1) := by decide +kernel
theorem d_Rd_takesGreatest_0 : decode c_Rd_takesGreatest 0 = .ok (.aload_n 0, 1) := by decide +kernel
theorem d_Rd_takesGreatest_1 : decode c_Rd_takesGreatest 1 = .ok (.getfield 9, 3) := by decide +kernel
theorem d_Rd_takesGreatest_4 : decode c_Rd_takesGreatest 4 = .ok (.invokevirtual 33, 3) := by decide +kernel
theorem d_Rd_takesGreatest_7 : decode c_Rd_takesGreatest 7 = .ok (.istore_n 3, 1) := by decide +kernel
theorem d_Rd_takesGreatest_8 : decode c_Rd_takesGreatest 8 = .ok (.aload_n 0, 1) := by decide +kernel
theorem d_Rd_takesGreatest_9 : decode c_Rd_takesGreatest 9 = .ok (.getfield 9, 3) := by decide +kernel
theorem d_Rd_takesGreatest_12 : decode c_Rd_takesGreatest 12 = .ok (.invokevirtual 58, 3) := by decide +kernel
theorem d_Rd_takesGreatest_15 : decode c_Rd_takesGreatest 15 = .ok (.istore 4, 2) := by decide +kernel
theorem d_Rd_takesGreatest_17 : decode c_Rd_takesGreatest 17 = .ok (.iload 4, 2) := by decide +kernel
theorem d_Rd_takesGreatest_19 : decode c_Rd_takesGreatest 19 = .ok (.iconst (-1), 1) := by decide +kernel
theorem d_Rd_takesGreatest_20 : decode c_Rd_takesGreatest 20 = .ok (.if_icmp .ne 5, 3) := by decide +kernel
theorem d_Rd_takesGreatest_23 : decode c_Rd_takesGreatest 23 = .ok (.iconst 0, 1) := by decide +kernel
theorem d_Rd_takesGreatest_24 : decode c_Rd_takesGreatest 24 = .ok (.ireturn, 1) := by decide +kernel
theorem d_Rd_takesGreatest_25 : decode c_Rd_takesGreatest 25 = .ok (.iload 4, 2) := by decide +kernel
theorem d_Rd_takesGreatest_27 : decode c_Rd_takesGreatest 27 = .ok (.iload_n 2, 1) := by decide +kernel
theorem d_Rd_takesGreatest_28 : decode c_Rd_takesGreatest 28 = .ok (.if_icmp .ge 13, 3) := by decide +kernel
theorem d_Rd_takesGreatest_31 : decode c_Rd_takesGreatest 31 = .ok (.aload_n 0, 1) := by decide +kernel
theorem d_Rd_takesGreatest_32 : decode c_Rd_takesGreatest 32 = .ok (.getfield 9, 3) := by decide +kernel
theorem d_Rd_takesGreatest_35 : decode c_Rd_takesGreatest 35 = .ok (.iload_n 3, 1) := by decide +kernel
theorem d_Rd_takesGreatest_36 : decode c_Rd_takesGreatest 36 = .ok (.invokevirtual 54, 3) := by decide +kernel
theorem d_Rd_takesGreatest_39 : decode c_Rd_takesGreatest 39 = .ok (.iconst 0, 1) := by decide +kernel
theorem d_Rd_takesGreatest_40 : decode c_Rd_takesGreatest 40 = .ok (.ireturn, 1) := by decide +kernel
theorem d_Rd_takesGreatest_41 : decode c_Rd_takesGreatest 41 = .ok (.aload_n 0, 1) := by decide +kernel
theorem d_Rd_takesGreatest_42 : decode c_Rd_takesGreatest 42 = .ok (.getfield 23, 3) := by decide +kernel
theorem d_Rd_takesGreatest_45 : decode c_Rd_takesGreatest 45 = .ok (.iconst 1, 1) := by decide +kernel
theorem d_Rd_takesGreatest_46 : decode c_Rd_takesGreatest 46 = .ok (.iload_n 1, 1) := by decide +kernel
theorem d_Rd_takesGreatest_47 : decode c_Rd_takesGreatest 47 = .ok (.iload_n 2, 1) := by decide +kernel
theorem d_Rd_takesGreatest_48 : decode c_Rd_takesGreatest 48 = .ok (.iload 4, 2) := by decide +kernel
theorem d_Rd_takesGreatest_50 : decode c_Rd_takesGreatest 50 = .ok (.invokevirtual 61, 3) := by decide +kernel
theorem d_Rd_takesGreatest_53 : decode c_Rd_takesGreatest 53 = .ok (.ireturn, 1) := by decide +kernel
theorem d_Rc_init_0 : decode c_Rc_init 0 = .ok (.aload_n 0, 1) := by decide +kernel
theorem d_Rc_init_1 : decode c_Rc_init 1 = .ok (.invokespecial 3, 3) := by decide +kernel
theorem d_Rc_init_4 : decode c_Rc_init 4 = .ok (.aload_n 0, 1) := by decide +kernel
theorem d_Rc_init_5 : decode c_Rc_init 5 = .ok (.bipush 60, 2) := by decide +kernel
theorem d_Rc_init_7 : decode c_Rc_init 7 = .ok (.newarray .long, 2) := by decide +kernel
theorem d_Rc_init_9 : decode c_Rc_init 9 = .ok (.putfield 9, 3) := by decide +kernel
theorem d_Rc_init_12 : decode c_Rc_init 12 = .ok (.aload_n 0, 1) := by decide +kernel
theorem d_Rc_init_13 : decode c_Rc_init 13 = .ok (.bipush 60, 2) := by decide +kernel
theorem d_Rc_init_15 : decode c_Rc_init 15 = .ok (.newarray .int, 2) := by decide +kernel
theorem d_Rc_init_17 : decode c_Rc_init 17 = .ok (.putfield 15, 3) := by decide +kernel
theorem d_Rc_init_20 : decode c_Rc_init 20 = .ok (.aload_n 0, 1) := by decide +kernel
theorem d_Rc_init_21 : decode c_Rc_init 21 = .ok (.sipush 480, 3) := by decide +kernel
theorem d_Rc_init_24 : decode c_Rc_init 24 = .ok (.newarray .int, 2) := by decide +kernel
theorem d_Rc_init_26 : decode c_Rc_init 26 = .ok (.putfield 19, 3) := by decide +kernel
theorem d_Rc_init_29 : decode c_Rc_init 29 = .ok (.aload_n 0, 1) := by decide +kernel
theorem d_Rc_init_30 : decode c_Rc_init 30 = .ok (.sipush 480, 3) := by decide +kernel
theorem d_Rc_init_33 : decode c_Rc_init 33 = .ok (.newarray .int, 2) := by decide +kernel
theorem d_Rc_init_35 : decode c_Rc_init 35 = .ok (.putfield 22, 3) := by decide +kernel
theorem d_Rc_init_38 : decode c_Rc_init 38 = .ok (.aload_n 0, 1) := by decide +kernel
theorem d_Rc_init_39 : decode c_Rc_init 39 = .ok (.bipush 40, 2) := by decide +kernel
theorem d_Rc_init_41 : decode c_Rc_init 41 = .ok (.newarray .boolean, 2) := by decide +kernel
theorem d_Rc_init_43 : decode c_Rc_init 43 = .ok (.putfield 25, 3) := by decide +kernel
theorem d_Rc_init_46 : decode c_Rc_init 46 = .ok (.aload_n 0, 1) := by decide +kernel
theorem d_Rc_init_47 : decode c_Rc_init 47 = .ok (.iconst 0, 1) := by decide +kernel
theorem d_Rc_init_48 : decode c_Rc_init 48 = .ok (.putfield 29, 3) := by decide +kernel
theorem d_Rc_init_51 : decode c_Rc_init 51 = .ok (.return_, 1) := by decide +kernel
theorem d_Rc_size_0 : decode c_Rc_size 0 = .ok (.aload_n 0, 1) := by decide +kernel
theorem d_Rc_size_1 : decode c_Rc_size 1 = .ok (.getfield 29, 3) := by decide +kernel
theorem d_Rc_size_4 : decode c_Rc_size 4 = .ok (.ireturn, 1) := by decide +kernel
theorem d_Rc_has_0 : decode c_Rc_has 0 = .ok (.iload_n 1, 1) := by decide +kernel
theorem d_Rc_has_1 : decode c_Rc_has 1 = .ok (.iconst 1, 1) := by decide +kernel
theorem d_Rc_has_2 : decode c_Rc_has 2 = .ok (.if_icmp .lt 21, 3) := by decide +kernel
theorem d_Rc_has_5 : decode c_Rc_has 5 = .ok (.iload_n 1, 1) := by decide +kernel
theorem d_Rc_has_6 : decode c_Rc_has 6 = .ok (.aload_n 0, 1) := by decide +kernel
theorem d_Rc_has_7 : decode c_Rc_has 7 = .ok (.getfield 29, 3) := by decide +kernel
theorem d_Rc_has_10 : decode c_Rc_has 10 = .ok (.if_icmp .gt 13, 3) := by decide +kernel
theorem d_Rc_has_13 : decode c_Rc_has 13 = .ok (.iload_n 1, 1) := by decide +kernel
theorem d_Rc_has_14 : decode c_Rc_has 14 = .ok (.bipush 60, 2) := by decide +kernel
theorem d_Rc_has_16 : decode c_Rc_has 16 = .ok (.if_icmp .gt 7, 3) := by decide +kernel
theorem d_Rc_has_19 : decode c_Rc_has 19 = .ok (.iconst 1, 1) := by decide +kernel
theorem d_Rc_has_20 : decode c_Rc_has 20 = .ok (.goto 4, 3) := by decide +kernel
theorem d_Rc_has_23 : decode c_Rc_has 23 = .ok (.iconst 0, 1) := by decide +kernel
theorem d_Rc_has_24 : decode c_Rc_has 24 = .ok (.ireturn, 1) := by decide +kernel
theorem d_Rc_momentOf_0 : decode c_Rc_momentOf 0 = .ok (.aload_n 0, 1) := by decide +kernel
theorem d_Rc_momentOf_1 : decode c_Rc_momentOf 1 = .ok (.iload_n 1, 1) := by decide +kernel
theorem d_Rc_momentOf_2 : decode c_Rc_momentOf 2 = .ok (.invokevirtual 33, 3) := by decide +kernel
theorem d_Rc_momentOf_5 : decode c_Rc_momentOf 5 = .ok (.ifCond .eq 14, 3) := by decide +kernel
theorem d_Rc_momentOf_8 : decode c_Rc_momentOf 8 = .ok (.aload_n 0, 1) := by decide +kernel
theorem d_Rc_momentOf_9 : decode c_Rc_momentOf 9 = .ok (.getfield 9, 3) := by decide +kernel
theorem d_Rc_momentOf_12 : decode c_Rc_momentOf 12 = .ok (.iload_n 1, 1) := by decide +kernel
theorem d_Rc_momentOf_13 : decode c_Rc_momentOf 13 = .ok (.iconst 1, 1) := by decide +kernel
theorem d_Rc_momentOf_14 : decode c_Rc_momentOf 14 = .ok (.isub, 1) := by decide +kernel
theorem d_Rc_momentOf_15 : decode c_Rc_momentOf 15 = .ok (.laload, 1) := by decide +kernel
theorem d_Rc_momentOf_16 : decode c_Rc_momentOf 16 = .ok (.goto 4, 3) := by decide +kernel
theorem d_Rc_momentOf_19 : decode c_Rc_momentOf 19 = .ok (.lconst 0, 1) := by decide +kernel
theorem d_Rc_momentOf_20 : decode c_Rc_momentOf 20 = .ok (.lreturn, 1) := by decide +kernel
theorem d_Rc_add_0 : decode c_Rc_add 0 = .ok (.aload_n 0, 1) := by decide +kernel
theorem d_Rc_add_1 : decode c_Rc_add 1 = .ok (.getfield 29, 3) := by decide +kernel
theorem d_Rc_add_4 : decode c_Rc_add 4 = .ok (.ifCond .lt 32, 3) := by decide +kernel
theorem d_Rc_add_7 : decode c_Rc_add 7 = .ok (.aload_n 0, 1) := by decide +kernel
theorem d_Rc_add_8 : decode c_Rc_add 8 = .ok (.getfield 29, 3) := by decide +kernel
theorem d_Rc_add_11 : decode c_Rc_add 11 = .ok (.bipush 60, 2) := by decide +kernel
theorem d_Rc_add_13 : decode c_Rc_add 13 = .ok (.if_icmp .ge 23, 3) := by decide +kernel
theorem d_Rc_add_16 : decode c_Rc_add 16 = .ok (.aload_n 0, 1) := by decide +kernel
theorem d_Rc_add_17 : decode c_Rc_add 17 = .ok (.getfield 29, 3) := by decide +kernel
theorem d_Rc_add_20 : decode c_Rc_add 20 = .ok (.ifCond .le 18, 3) := by decide +kernel
theorem d_Rc_add_23 : decode c_Rc_add 23 = .ok (.lload_n 1, 1) := by decide +kernel
theorem d_Rc_add_24 : decode c_Rc_add 24 = .ok (.aload_n 0, 1) := by decide +kernel
theorem d_Rc_add_25 : decode c_Rc_add 25 = .ok (.aload_n 0, 1) := by decide +kernel
theorem d_Rc_add_26 : decode c_Rc_add 26 = .ok (.getfield 29, 3) := by decide +kernel
theorem d_Rc_add_29 : decode c_Rc_add 29 = .ok (.invokevirtual 37, 3) := by decide +kernel
theorem d_Rc_add_32 : decode c_Rc_add 32 = .ok (.lcmp, 1) := by decide +kernel
theorem d_Rc_add_33 : decode c_Rc_add 33 = .ok (.ifCond .ge 5, 3) := by decide +kernel
theorem d_Rc_add_36 : decode c_Rc_add 36 = .ok (.iconst 0, 1) := by decide +kernel
theorem d_Rc_add_37 : decode c_Rc_add 37 = .ok (.ireturn, 1) := by decide +kernel
theorem d_Rc_add_38 : decode c_Rc_add 38 = .ok (.aload_n 0, 1) := by decide +kernel
theorem d_Rc_add_39 : decode c_Rc_add 39 = .ok (.getfield 9, 3) := by decide +kernel
theorem d_Rc_add_42 : decode c_Rc_add 42 = .ok (.aload_n 0, 1) := by decide +kernel
theorem d_Rc_add_43 : decode c_Rc_add 43 = .ok (.getfield 29, 3) := by decide +kernel
theorem d_Rc_add_46 : decode c_Rc_add 46 = .ok (.lload_n 1, 1) := by decide +kernel
theorem d_Rc_add_47 : decode c_Rc_add 47 = .ok (.lastore, 1) := by decide +kernel
theorem d_Rc_add_48 : decode c_Rc_add 48 = .ok (.aload_n 0, 1) := by decide +kernel
theorem d_Rc_add_49 : decode c_Rc_add 49 = .ok (.getfield 15, 3) := by decide +kernel
theorem d_Rc_add_52 : decode c_Rc_add 52 = .ok (.aload_n 0, 1) := by decide +kernel
theorem d_Rc_add_53 : decode c_Rc_add 53 = .ok (.getfield 29, 3) := by decide +kernel
theorem d_Rc_add_56 : decode c_Rc_add 56 = .ok (.iconst 0, 1) := by decide +kernel
theorem d_Rc_add_57 : decode c_Rc_add 57 = .ok (.iastore, 1) := by decide +kernel
theorem d_Rc_add_58 : decode c_Rc_add 58 = .ok (.aload_n 0, 1) := by decide +kernel
theorem d_Rc_add_59 : decode c_Rc_add 59 = .ok (.dup, 1) := by decide +kernel
theorem d_Rc_add_60 : decode c_Rc_add 60 = .ok (.getfield 29, 3) := by decide +kernel
theorem d_Rc_add_63 : decode c_Rc_add 63 = .ok (.iconst 1, 1) := by decide +kernel
theorem d_Rc_add_64 : decode c_Rc_add 64 = .ok (.iadd, 1) := by decide +kernel
theorem d_Rc_add_65 : decode c_Rc_add 65 = .ok (.putfield 29, 3) := by decide +kernel
theorem d_Rc_add_68 : decode c_Rc_add 68 = .ok (.aload_n 0, 1) := by decide +kernel
theorem d_Rc_add_69 : decode c_Rc_add 69 = .ok (.getfield 29, 3) := by decide +kernel
theorem d_Rc_add_72 : decode c_Rc_add 72 = .ok (.ireturn, 1) := by decide +kernel
theorem d_Rc_addEntry_0 : decode c_Rc_addEntry 0 = .ok (.aload_n 0, 1) := by decide +kernel
theorem d_Rc_addEntry_1 : decode c_Rc_addEntry 1 = .ok (.iload_n 1, 1) := by decide +kernel
theorem d_Rc_addEntry_2 : decode c_Rc_addEntry 2 = .ok (.invokevirtual 33, 3) := by decide +kernel
theorem d_Rc_addEntry_5 : decode c_Rc_addEntry 5 = .ok (.ifCond .ne 5, 3) := by decide +kernel
theorem d_Rc_addEntry_8 : decode c_Rc_addEntry 8 = .ok (.iconst 0, 1) := by decide +kernel
theorem d_Rc_addEntry_9 : decode c_Rc_addEntry 9 = .ok (.ireturn, 1) := by decide +kernel
theorem d_Rc_addEntry_10 : decode c_Rc_addEntry 10 = .ok (.aload_n 0, 1) := by decide +kernel
theorem d_Rc_addEntry_11 : decode c_Rc_addEntry 11 = .ok (.getfield 15, 3) := by decide +kernel
theorem d_Rc_addEntry_14 : decode c_Rc_addEntry 14 = .ok (.iload_n 1, 1) := by decide +kernel
theorem d_Rc_addEntry_15 : decode c_Rc_addEntry 15 = .ok (.iconst 1, 1) := by decide +kernel
theorem d_Rc_addEntry_16 : decode c_Rc_addEntry 16 = .ok (.isub, 1) := by decide +kernel
theorem d_Rc_addEntry_17 : decode c_Rc_addEntry 17 = .ok (.iaload, 1) := by decide +kernel
theorem d_Rc_addEntry_18 : decode c_Rc_addEntry 18 = .ok (.istore 4, 2) := by decide +kernel
theorem d_Rc_addEntry_20 : decode c_Rc_addEntry 20 = .ok (.iload 4, 2) := by decide +kernel
theorem d_Rc_addEntry_22 : decode c_Rc_addEntry 22 = .ok (.ifCond .lt 10, 3) := by decide +kernel
theorem d_Rc_addEntry_25 : decode c_Rc_addEntry 25 = .ok (.iload 4, 2) := by decide +kernel
theorem d_Rc_addEntry_27 : decode c_Rc_addEntry 27 = .ok (.bipush 8, 2) := by decide +kernel
theorem d_Rc_addEntry_29 : decode c_Rc_addEntry 29 = .ok (.if_icmp .lt 5, 3) := by decide +kernel
theorem d_Rc_addEntry_32 : decode c_Rc_addEntry 32 = .ok (.iconst 0, 1) := by decide +kernel
theorem d_Rc_addEntry_33 : decode c_Rc_addEntry 33 = .ok (.ireturn, 1) := by decide +kernel
theorem d_Rc_addEntry_34 : decode c_Rc_addEntry 34 = .ok (.iload_n 1, 1) := by decide +kernel
theorem d_Rc_addEntry_35 : decode c_Rc_addEntry 35 = .ok (.iconst 1, 1) := by decide +kernel
theorem d_Rc_addEntry_36 : decode c_Rc_addEntry 36 = .ok (.isub, 1) := by decide +kernel
theorem d_Rc_addEntry_37 : decode c_Rc_addEntry 37 = .ok (.bipush 8, 2) := by decide +kernel
theorem d_Rc_addEntry_39 : decode c_Rc_addEntry 39 = .ok (.imul, 1) := by decide +kernel
theorem d_Rc_addEntry_40 : decode c_Rc_addEntry 40 = .ok (.iload 4, 2) := by decide +kernel
theorem d_Rc_addEntry_42 : decode c_Rc_addEntry 42 = .ok (.iadd, 1) := by decide +kernel
theorem d_Rc_addEntry_43 : decode c_Rc_addEntry 43 = .ok (.istore 5, 2) := by decide +kernel
theorem d_Rc_addEntry_45 : decode c_Rc_addEntry 45 = .ok (.aload_n 0, 1) := by decide +kernel
theorem d_Rc_addEntry_46 : decode c_Rc_addEntry 46 = .ok (.getfield 19, 3) := by decide +kernel
theorem d_Rc_addEntry_49 : decode c_Rc_addEntry 49 = .ok (.iload 5, 2) := by decide +kernel
theorem d_Rc_addEntry_51 : decode c_Rc_addEntry 51 = .ok (.iload_n 2, 1) := by decide +kernel
theorem d_Rc_addEntry_52 : decode c_Rc_addEntry 52 = .ok (.iastore, 1) := by decide +kernel
theorem d_Rc_addEntry_53 : decode c_Rc_addEntry 53 = .ok (.aload_n 0, 1) := by decide +kernel
theorem d_Rc_addEntry_54 : decode c_Rc_addEntry 54 = .ok (.getfield 22, 3) := by decide +kernel
theorem d_Rc_addEntry_57 : decode c_Rc_addEntry 57 = .ok (.iload 5, 2) := by decide +kernel
theorem d_Rc_addEntry_59 : decode c_Rc_addEntry 59 = .ok (.iload_n 3, 1) := by decide +kernel
theorem d_Rc_addEntry_60 : decode c_Rc_addEntry 60 = .ok (.iastore, 1) := by decide +kernel
theorem d_Rc_addEntry_61 : decode c_Rc_addEntry 61 = .ok (.aload_n 0, 1) := by decide +kernel
theorem d_Rc_addEntry_62 : decode c_Rc_addEntry 62 = .ok (.getfield 15, 3) := by decide +kernel
theorem d_Rc_addEntry_65 : decode c_Rc_addEntry 65 = .ok (.iload_n 1, 1) := by decide +kernel
theorem d_Rc_addEntry_66 : decode c_Rc_addEntry 66 = .ok (.iconst 1, 1) := by decide +kernel
theorem d_Rc_addEntry_67 : decode c_Rc_addEntry 67 = .ok (.isub, 1) := by decide +kernel
theorem d_Rc_addEntry_68 : decode c_Rc_addEntry 68 = .ok (.iload 4, 2) := by decide +kernel
theorem d_Rc_addEntry_70 : decode c_Rc_addEntry 70 = .ok (.iconst 1, 1) := by decide +kernel
theorem d_Rc_addEntry_71 : decode c_Rc_addEntry 71 = .ok (.iadd, 1) := by decide +kernel
theorem d_Rc_addEntry_72 : decode c_Rc_addEntry 72 = .ok (.iastore, 1) := by decide +kernel
theorem d_Rc_addEntry_73 : decode c_Rc_addEntry 73 = .ok (.iload 4, 2) := by decide +kernel
theorem d_Rc_addEntry_75 : decode c_Rc_addEntry 75 = .ok (.iconst 1, 1) := by decide +kernel
theorem d_Rc_addEntry_76 : decode c_Rc_addEntry 76 = .ok (.iadd, 1) := by decide +kernel
theorem d_Rc_addEntry_77 : decode c_Rc_addEntry 77 = .ok (.ireturn, 1) := by decide +kernel
theorem d_Rc_isMet_0 : decode c_Rc_isMet 0 = .ok (.iconst 0, 1) := by decide +kernel
theorem d_Rc_isMet_1 : decode c_Rc_isMet 1 = .ok (.istore_n 3, 1) := by decide +kernel
theorem d_Rc_isMet_2 : decode c_Rc_isMet 2 = .ok (.aload_n 1, 1) := by decide +kernel
theorem d_Rc_isMet_3 : decode c_Rc_isMet 3 = .ok (.invokevirtual 41, 3) := by decide +kernel
theorem d_Rc_isMet_6 : decode c_Rc_isMet 6 = .ok (.iconst 1, 1) := by decide +kernel
theorem d_Rc_isMet_7 : decode c_Rc_isMet 7 = .ok (.isub, 1) := by decide +kernel
theorem d_Rc_isMet_8 : decode c_Rc_isMet 8 = .ok (.istore 4, 2) := by decide +kernel
theorem d_Rc_isMet_10 : decode c_Rc_isMet 10 = .ok (.iload 4, 2) := by decide +kernel
theorem d_Rc_isMet_12 : decode c_Rc_isMet 12 = .ok (.ifCond .lt 96, 3) := by decide +kernel
theorem d_Rc_isMet_15 : decode c_Rc_isMet 15 = .ok (.aload_n 1, 1) := by decide +kernel
theorem d_Rc_isMet_16 : decode c_Rc_isMet 16 = .ok (.iload 4, 2) := by decide +kernel
theorem d_Rc_isMet_18 : decode c_Rc_isMet 18 = .ok (.invokevirtual 47, 3) := by decide +kernel
theorem d_Rc_isMet_21 : decode c_Rc_isMet 21 = .ok (.istore 5, 2) := by decide +kernel
theorem d_Rc_isMet_23 : decode c_Rc_isMet 23 = .ok (.iload 5, 2) := by decide +kernel
theorem d_Rc_isMet_25 : decode c_Rc_isMet 25 = .ok (.iconst 3, 1) := by decide +kernel
theorem d_Rc_isMet_26 : decode c_Rc_isMet 26 = .ok (.if_icmp .ge 33, 3) := by decide +kernel
theorem d_Rc_isMet_29 : decode c_Rc_isMet 29 = .ok (.iload_n 3, 1) := by decide +kernel
theorem d_Rc_isMet_30 : decode c_Rc_isMet 30 = .ok (.ifCond .lt 72, 3) := by decide +kernel
theorem d_Rc_isMet_33 : decode c_Rc_isMet 33 = .ok (.iload_n 3, 1) := by decide +kernel
theorem d_Rc_isMet_34 : decode c_Rc_isMet 34 = .ok (.bipush 40, 2) := by decide +kernel
theorem d_Rc_isMet_36 : decode c_Rc_isMet 36 = .ok (.if_icmp .ge 66, 3) := by decide +kernel
theorem d_Rc_isMet_39 : decode c_Rc_isMet 39 = .ok (.aload_n 0, 1) := by decide +kernel
theorem d_Rc_isMet_40 : decode c_Rc_isMet 40 = .ok (.getfield 25, 3) := by decide +kernel
theorem d_Rc_isMet_43 : decode c_Rc_isMet 43 = .ok (.iload_n 3, 1) := by decide +kernel
theorem d_Rc_isMet_44 : decode c_Rc_isMet 44 = .ok (.aload_n 0, 1) := by decide +kernel
theorem d_Rc_isMet_45 : decode c_Rc_isMet 45 = .ok (.aload_n 1, 1) := by decide +kernel
theorem d_Rc_isMet_46 : decode c_Rc_isMet 46 = .ok (.iload 4, 2) := by decide +kernel
theorem d_Rc_isMet_48 : decode c_Rc_isMet 48 = .ok (.iload_n 2, 1) := by decide +kernel
theorem d_Rc_isMet_49 : decode c_Rc_isMet 49 = .ok (.invokevirtual 51, 3) := by decide +kernel
theorem d_Rc_isMet_52 : decode c_Rc_isMet 52 = .ok (.bastore, 1) := by decide +kernel
theorem d_Rc_isMet_53 : decode c_Rc_isMet 53 = .ok (.iinc 3 1, 3) := by decide +kernel
theorem d_Rc_isMet_56 : decode c_Rc_isMet 56 = .ok (.goto 46, 3) := by decide +kernel
theorem d_Rc_isMet_59 : decode c_Rc_isMet 59 = .ok (.iload_n 3, 1) := by decide +kernel
theorem d_Rc_isMet_60 : decode c_Rc_isMet 60 = .ok (.iconst 2, 1) := by decide +kernel
theorem d_Rc_isMet_61 : decode c_Rc_isMet 61 = .ok (.if_icmp .lt 41, 3) := by decide +kernel
theorem d_Rc_isMet_64 : decode c_Rc_isMet 64 = .ok (.iload_n 3, 1) := by decide +kernel
theorem d_Rc_isMet_65 : decode c_Rc_isMet 65 = .ok (.bipush 40, 2) := by decide +kernel
theorem d_Rc_isMet_67 : decode c_Rc_isMet 67 = .ok (.if_icmp .gt 35, 3) := by decide +kernel
theorem d_Rc_isMet_70 : decode c_Rc_isMet 70 = .ok (.aload_n 0, 1) := by decide +kernel
theorem d_Rc_isMet_71 : decode c_Rc_isMet 71 = .ok (.getfield 25, 3) := by decide +kernel
theorem d_Rc_isMet_74 : decode c_Rc_isMet 74 = .ok (.iload_n 3, 1) := by decide +kernel
theorem d_Rc_isMet_75 : decode c_Rc_isMet 75 = .ok (.iconst 2, 1) := by decide +kernel
theorem d_Rc_isMet_76 : decode c_Rc_isMet 76 = .ok (.isub, 1) := by decide +kernel
theorem d_Rc_isMet_77 : decode c_Rc_isMet 77 = .ok (.iload 5, 2) := by decide +kernel
theorem d_Rc_isMet_79 : decode c_Rc_isMet 79 = .ok (.aload_n 0, 1) := by decide +kernel
theorem d_Rc_isMet_80 : decode c_Rc_isMet 80 = .ok (.getfield 25, 3) := by decide +kernel
theorem d_Rc_isMet_83 : decode c_Rc_isMet 83 = .ok (.iload_n 3, 1) := by decide +kernel
theorem d_Rc_isMet_84 : decode c_Rc_isMet 84 = .ok (.iconst 1, 1) := by decide +kernel
theorem d_Rc_isMet_85 : decode c_Rc_isMet 85 = .ok (.isub, 1) := by decide +kernel
theorem d_Rc_isMet_86 : decode c_Rc_isMet 86 = .ok (.baload, 1) := by decide +kernel
theorem d_Rc_isMet_87 : decode c_Rc_isMet 87 = .ok (.aload_n 0, 1) := by decide +kernel
theorem d_Rc_isMet_88 : decode c_Rc_isMet 88 = .ok (.getfield 25, 3) := by decide +kernel
theorem d_Rc_isMet_91 : decode c_Rc_isMet 91 = .ok (.iload_n 3, 1) := by decide +kernel
theorem d_Rc_isMet_92 : decode c_Rc_isMet 92 = .ok (.iconst 2, 1) := by decide +kernel
theorem d_Rc_isMet_93 : decode c_Rc_isMet 93 = .ok (.isub, 1) := by decide +kernel
theorem d_Rc_isMet_94 : decode c_Rc_isMet 94 = .ok (.baload, 1) := by decide +kernel
theorem d_Rc_isMet_95 : decode c_Rc_isMet 95 = .ok (.invokestatic 55, 3) := by decide +kernel
theorem d_Rc_isMet_98 : decode c_Rc_isMet 98 = .ok (.bastore, 1) := by decide +kernel
theorem d_Rc_isMet_99 : decode c_Rc_isMet 99 = .ok (.iinc 3 (-1), 3) := by decide +kernel
theorem d_Rc_isMet_102 : decode c_Rc_isMet 102 = .ok (.iinc 4 (-1), 3) := by decide +kernel
theorem d_Rc_isMet_105 : decode c_Rc_isMet 105 = .ok (.goto (-95), 3) := by decide +kernel
theorem d_Rc_isMet_108 : decode c_Rc_isMet 108 = .ok (.iload_n 3, 1) := by decide +kernel
theorem d_Rc_isMet_109 : decode c_Rc_isMet 109 = .ok (.iconst 1, 1) := by decide +kernel
theorem d_Rc_isMet_110 : decode c_Rc_isMet 110 = .ok (.if_icmp .ne 16, 3) := by decide +kernel
theorem d_Rc_isMet_113 : decode c_Rc_isMet 113 = .ok (.aload_n 0, 1) := by decide +kernel
theorem d_Rc_isMet_114 : decode c_Rc_isMet 114 = .ok (.getfield 25, 3) := by decide +kernel
theorem d_Rc_isMet_117 : decode c_Rc_isMet 117 = .ok (.iconst 0, 1) := by decide +kernel
theorem d_Rc_isMet_118 : decode c_Rc_isMet 118 = .ok (.baload, 1) := by decide +kernel
theorem d_Rc_isMet_119 : decode c_Rc_isMet 119 = .ok (.ifCond .eq 7, 3) := by decide +kernel
theorem d_Rc_isMet_122 : decode c_Rc_isMet 122 = .ok (.iconst 1, 1) := by decide +kernel
theorem d_Rc_isMet_123 : decode c_Rc_isMet 123 = .ok (.goto 4, 3) := by decide +kernel
theorem d_Rc_isMet_126 : decode c_Rc_isMet 126 = .ok (.iconst 0, 1) := by decide +kernel
theorem d_Rc_isMet_127 : decode c_Rc_isMet 127 = .ok (.ireturn, 1) := by decide +kernel
theorem d_Rc_isJoinedMet_0 : decode c_Rc_isJoinedMet 0 = .ok (.iload_n 0, 1) := by decide +kernel
theorem d_Rc_isJoinedMet_1 : decode c_Rc_isJoinedMet 1 = .ok (.iconst 3, 1) := by decide +kernel
theorem d_Rc_isJoinedMet_2 : decode c_Rc_isJoinedMet 2 = .ok (.if_icmp .ne 17, 3) := by decide +kernel
theorem d_Rc_isJoinedMet_5 : decode c_Rc_isJoinedMet 5 = .ok (.iload_n 1, 1) := by decide +kernel
theorem d_Rc_isJoinedMet_6 : decode c_Rc_isJoinedMet 6 = .ok (.ifCond .eq 11, 3) := by decide +kernel
theorem d_Rc_isJoinedMet_9 : decode c_Rc_isJoinedMet 9 = .ok (.iload_n 2, 1) := by decide +kernel
theorem d_Rc_isJoinedMet_10 : decode c_Rc_isJoinedMet 10 = .ok (.ifCond .eq 7, 3) := by decide +kernel
theorem d_Rc_isJoinedMet_13 : decode c_Rc_isJoinedMet 13 = .ok (.iconst 1, 1) := by decide +kernel
theorem d_Rc_isJoinedMet_14 : decode c_Rc_isJoinedMet 14 = .ok (.goto 4, 3) := by decide +kernel
theorem d_Rc_isJoinedMet_17 : decode c_Rc_isJoinedMet 17 = .ok (.iconst 0, 1) := by decide +kernel
theorem d_Rc_isJoinedMet_18 : decode c_Rc_isJoinedMet 18 = .ok (.ireturn, 1) := by decide +kernel
theorem d_Rc_isJoinedMet_19 : decode c_Rc_isJoinedMet 19 = .ok (.iload_n 0, 1) := by decide +kernel
theorem d_Rc_isJoinedMet_20 : decode c_Rc_isJoinedMet 20 = .ok (.iconst 4, 1) := by decide +kernel
theorem d_Rc_isJoinedMet_21 : decode c_Rc_isJoinedMet 21 = .ok (.if_icmp .ne 19, 3) := by decide +kernel
theorem d_Rc_isJoinedMet_24 : decode c_Rc_isJoinedMet 24 = .ok (.iload_n 1, 1) := by decide +kernel
theorem d_Rc_isJoinedMet_25 : decode c_Rc_isJoinedMet 25 = .ok (.ifCond .ne 7, 3) := by decide +kernel
theorem d_Rc_isJoinedMet_28 : decode c_Rc_isJoinedMet 28 = .ok (.iload_n 2, 1) := by decide +kernel
theorem d_Rc_isJoinedMet_29 : decode c_Rc_isJoinedMet 29 = .ok (.ifCond .eq 7, 3) := by decide +kernel
theorem d_Rc_isJoinedMet_32 : decode c_Rc_isJoinedMet 32 = .ok (.iconst 1, 1) := by decide +kernel
theorem d_Rc_isJoinedMet_33 : decode c_Rc_isJoinedMet 33 = .ok (.goto 20, 3) := by decide +kernel
theorem d_Rc_isJoinedMet_36 : decode c_Rc_isJoinedMet 36 = .ok (.iconst 0, 1) := by decide +kernel
theorem d_Rc_isJoinedMet_37 : decode c_Rc_isJoinedMet 37 = .ok (.goto 16, 3) := by decide +kernel
theorem d_Rc_isJoinedMet_40 : decode c_Rc_isJoinedMet 40 = .ok (.iload_n 1, 1) := by decide +kernel
theorem d_Rc_isJoinedMet_41 : decode c_Rc_isJoinedMet 41 = .ok (.ifCond .eq 11, 3) := by decide +kernel
theorem d_Rc_isJoinedMet_44 : decode c_Rc_isJoinedMet 44 = .ok (.iload_n 2, 1) := by decide +kernel
theorem d_Rc_isJoinedMet_45 : decode c_Rc_isJoinedMet 45 = .ok (.ifCond .ne 7, 3) := by decide +kernel
theorem d_Rc_isJoinedMet_48 : decode c_Rc_isJoinedMet 48 = .ok (.iconst 1, 1) := by decide +kernel
theorem d_Rc_isJoinedMet_49 : decode c_Rc_isJoinedMet 49 = .ok (.goto 4, 3) := by decide +kernel
theorem d_Rc_isJoinedMet_52 : decode c_Rc_isJoinedMet 52 = .ok (.iconst 0, 1) := by decide +kernel
theorem d_Rc_isJoinedMet_53 : decode c_Rc_isJoinedMet 53 = .ok (.ireturn, 1) := by decide +kernel
theorem d_Rc_isSimpleMet_0 : decode c_Rc_isSimpleMet 0 = .ok (.aload_n 0, 1) := by decide +kernel
theorem d_Rc_isSimpleMet_1 : decode c_Rc_isSimpleMet 1 = .ok (.iload_n 3, 1) := by decide +kernel
theorem d_Rc_isSimpleMet_2 : decode c_Rc_isSimpleMet 2 = .ok (.invokevirtual 33, 3) := by decide +kernel
theorem d_Rc_isSimpleMet_5 : decode c_Rc_isSimpleMet 5 = .ok (.ifCond .ne 5, 3) := by decide +kernel
theorem d_Rc_isSimpleMet_8 : decode c_Rc_isSimpleMet 8 = .ok (.iconst 0, 1) := by decide +kernel
theorem d_Rc_isSimpleMet_9 : decode c_Rc_isSimpleMet 9 = .ok (.ireturn, 1) := by decide +kernel
theorem d_Rc_isSimpleMet_10 : decode c_Rc_isSimpleMet 10 = .ok (.iload_n 3, 1) := by decide +kernel
theorem d_Rc_isSimpleMet_11 : decode c_Rc_isSimpleMet 11 = .ok (.iconst 1, 1) := by decide +kernel
theorem d_Rc_isSimpleMet_12 : decode c_Rc_isSimpleMet 12 = .ok (.isub, 1) := by decide +kernel
theorem d_Rc_isSimpleMet_13 : decode c_Rc_isSimpleMet 13 = .ok (.bipush 8, 2) := by decide +kernel
theorem d_Rc_isSimpleMet_15 : decode c_Rc_isSimpleMet 15 = .ok (.imul, 1) := by decide +kernel
theorem d_Rc_isSimpleMet_16 : decode c_Rc_isSimpleMet 16 = .ok (.istore 4, 2) := by decide +kernel
theorem d_Rc_isSimpleMet_18 : decode c_Rc_isSimpleMet 18 = .ok (.aload_n 0, 1) := by decide +kernel
theorem d_Rc_isSimpleMet_19 : decode c_Rc_isSimpleMet 19 = .ok (.getfield 15, 3) := by decide +kernel
theorem d_Rc_isSimpleMet_22 : decode c_Rc_isSimpleMet 22 = .ok (.iload_n 3, 1) := by decide +kernel
theorem d_Rc_isSimpleMet_23 : decode c_Rc_isSimpleMet 23 = .ok (.iconst 1, 1) := by decide +kernel
theorem d_Rc_isSimpleMet_24 : decode c_Rc_isSimpleMet 24 = .ok (.isub, 1) := by decide +kernel
theorem d_Rc_isSimpleMet_25 : decode c_Rc_isSimpleMet 25 = .ok (.iaload, 1) := by decide +kernel
theorem d_Rc_isSimpleMet_26 : decode c_Rc_isSimpleMet 26 = .ok (.bipush 8, 2) := by decide +kernel
theorem d_Rc_isSimpleMet_28 : decode c_Rc_isSimpleMet 28 = .ok (.invokestatic 59, 3) := by decide +kernel
theorem d_Rc_isSimpleMet_31 : decode c_Rc_isSimpleMet 31 = .ok (.istore 5, 2) := by decide +kernel
theorem d_Rc_isSimpleMet_33 : decode c_Rc_isSimpleMet 33 = .ok (.iconst 0, 1) := by decide +kernel
theorem d_Rc_isSimpleMet_34 : decode c_Rc_isSimpleMet 34 = .ok (.istore 6, 2) := by decide +kernel
theorem d_Rc_isSimpleMet_36 : decode c_Rc_isSimpleMet 36 = .ok (.iload 6, 2) := by decide +kernel
theorem d_Rc_isSimpleMet_38 : decode c_Rc_isSimpleMet 38 = .ok (.iload 5, 2) := by decide +kernel
theorem d_Rc_isSimpleMet_40 : decode c_Rc_isSimpleMet 40 = .ok (.if_icmp .ge 47, 3) := by decide +kernel
theorem d_Rc_isSimpleMet_43 : decode c_Rc_isSimpleMet 43 = .ok (.aload_n 0, 1) := by decide +kernel
theorem d_Rc_isSimpleMet_44 : decode c_Rc_isSimpleMet 44 = .ok (.getfield 19, 3) := by decide +kernel
theorem d_Rc_isSimpleMet_47 : decode c_Rc_isSimpleMet 47 = .ok (.iload 4, 2) := by decide +kernel
theorem d_Rc_isSimpleMet_49 : decode c_Rc_isSimpleMet 49 = .ok (.iload 6, 2) := by decide +kernel
theorem d_Rc_isSimpleMet_51 : decode c_Rc_isSimpleMet 51 = .ok (.iadd, 1) := by decide +kernel
theorem d_Rc_isSimpleMet_52 : decode c_Rc_isSimpleMet 52 = .ok (.iaload, 1) := by decide +kernel
theorem d_Rc_isSimpleMet_53 : decode c_Rc_isSimpleMet 53 = .ok (.aload_n 1, 1) := by decide +kernel
theorem d_Rc_isSimpleMet_54 : decode c_Rc_isSimpleMet 54 = .ok (.iload_n 2, 1) := by decide +kernel
theorem d_Rc_isSimpleMet_55 : decode c_Rc_isSimpleMet 55 = .ok (.invokevirtual 65, 3) := by decide +kernel
theorem d_Rc_isSimpleMet_58 : decode c_Rc_isSimpleMet 58 = .ok (.if_icmp .ne 23, 3) := by decide +kernel
theorem d_Rc_isSimpleMet_61 : decode c_Rc_isSimpleMet 61 = .ok (.aload_n 1, 1) := by decide +kernel
theorem d_Rc_isSimpleMet_62 : decode c_Rc_isSimpleMet 62 = .ok (.iload_n 2, 1) := by decide +kernel
theorem d_Rc_isSimpleMet_63 : decode c_Rc_isSimpleMet 63 = .ok (.aload_n 0, 1) := by decide +kernel
theorem d_Rc_isSimpleMet_64 : decode c_Rc_isSimpleMet 64 = .ok (.getfield 22, 3) := by decide +kernel
theorem d_Rc_isSimpleMet_67 : decode c_Rc_isSimpleMet 67 = .ok (.iload 4, 2) := by decide +kernel
theorem d_Rc_isSimpleMet_69 : decode c_Rc_isSimpleMet 69 = .ok (.iload 6, 2) := by decide +kernel
theorem d_Rc_isSimpleMet_71 : decode c_Rc_isSimpleMet 71 = .ok (.iadd, 1) := by decide +kernel
theorem d_Rc_isSimpleMet_72 : decode c_Rc_isSimpleMet 72 = .ok (.iaload, 1) := by decide +kernel
theorem d_Rc_isSimpleMet_73 : decode c_Rc_isSimpleMet 73 = .ok (.invokestatic 68, 3) := by decide +kernel
theorem d_Rc_isSimpleMet_76 : decode c_Rc_isSimpleMet 76 = .ok (.ifCond .eq 5, 3) := by decide +kernel
theorem d_Rc_isSimpleMet_79 : decode c_Rc_isSimpleMet 79 = .ok (.iconst 1, 1) := by decide +kernel
theorem d_Rc_isSimpleMet_80 : decode c_Rc_isSimpleMet 80 = .ok (.ireturn, 1) := by decide +kernel
theorem d_Rc_isSimpleMet_81 : decode c_Rc_isSimpleMet 81 = .ok (.iinc 6 1, 3) := by decide +kernel
theorem d_Rc_isSimpleMet_84 : decode c_Rc_isSimpleMet 84 = .ok (.goto (-48), 3) := by decide +kernel
theorem d_Rc_isSimpleMet_87 : decode c_Rc_isSimpleMet 87 = .ok (.iconst 0, 1) := by decide +kernel
theorem d_Rc_isSimpleMet_88 : decode c_Rc_isSimpleMet 88 = .ok (.ireturn, 1) := by decide +kernel
theorem d_Rc_isValueMet_0 : decode c_Rc_isValueMet 0 = .ok (.aload_n 0, 1) := by decide +kernel
theorem d_Rc_isValueMet_1 : decode c_Rc_isValueMet 1 = .ok (.iload_n 1, 1) := by decide +kernel
theorem d_Rc_isValueMet_2 : decode c_Rc_isValueMet 2 = .ok (.invokevirtual 71, 3) := by decide +kernel
theorem d_Rc_isValueMet_5 : decode c_Rc_isValueMet 5 = .ok (.istore_n 3, 1) := by decide +kernel
theorem d_Rc_isValueMet_6 : decode c_Rc_isValueMet 6 = .ok (.aload_n 0, 1) := by decide +kernel
theorem d_Rc_isValueMet_7 : decode c_Rc_isValueMet 7 = .ok (.iload_n 1, 1) := by decide +kernel
theorem d_Rc_isValueMet_8 : decode c_Rc_isValueMet 8 = .ok (.invokevirtual 47, 3) := by decide +kernel
theorem d_Rc_isValueMet_11 : decode c_Rc_isValueMet 11 = .ok (.lookupswitch 56 #[(0, 25), (1, 36)], 25) := by decide +kernel
theorem d_Rc_isValueMet_36 : decode c_Rc_isValueMet 36 = .ok (.iload_n 2, 1) := by decide +kernel
theorem d_Rc_isValueMet_37 : decode c_Rc_isValueMet 37 = .ok (.iload_n 3, 1) := by decide +kernel
theorem d_Rc_isValueMet_38 : decode c_Rc_isValueMet 38 = .ok (.if_icmp .ne 7, 3) := by decide +kernel
theorem d_Rc_isValueMet_41 : decode c_Rc_isValueMet 41 = .ok (.iconst 1, 1) := by decide +kernel
theorem d_Rc_isValueMet_42 : decode c_Rc_isValueMet 42 = .ok (.goto 4, 3) := by decide +kernel
theorem d_Rc_isValueMet_45 : decode c_Rc_isValueMet 45 = .ok (.iconst 0, 1) := by decide +kernel
theorem d_Rc_isValueMet_46 : decode c_Rc_isValueMet 46 = .ok (.ireturn, 1) := by decide +kernel
theorem d_Rc_isValueMet_47 : decode c_Rc_isValueMet 47 = .ok (.iload_n 2, 1) := by decide +kernel
theorem d_Rc_isValueMet_48 : decode c_Rc_isValueMet 48 = .ok (.iload_n 3, 1) := by decide +kernel
theorem d_Rc_isValueMet_49 : decode c_Rc_isValueMet 49 = .ok (.if_icmp .lt 16, 3) := by decide +kernel
theorem d_Rc_isValueMet_52 : decode c_Rc_isValueMet 52 = .ok (.iload_n 2, 1) := by decide +kernel
theorem d_Rc_isValueMet_53 : decode c_Rc_isValueMet 53 = .ok (.aload_n 0, 1) := by decide +kernel
theorem d_Rc_isValueMet_54 : decode c_Rc_isValueMet 54 = .ok (.iload_n 1, 1) := by decide +kernel
theorem d_Rc_isValueMet_55 : decode c_Rc_isValueMet 55 = .ok (.invokevirtual 74, 3) := by decide +kernel
theorem d_Rc_isValueMet_58 : decode c_Rc_isValueMet 58 = .ok (.if_icmp .gt 7, 3) := by decide +kernel
theorem d_Rc_isValueMet_61 : decode c_Rc_isValueMet 61 = .ok (.iconst 1, 1) := by decide +kernel
theorem d_Rc_isValueMet_62 : decode c_Rc_isValueMet 62 = .ok (.goto 4, 3) := by decide +kernel
theorem d_Rc_isValueMet_65 : decode c_Rc_isValueMet 65 = .ok (.iconst 0, 1) := by decide +kernel
theorem d_Rc_isValueMet_66 : decode c_Rc_isValueMet 66 = .ok (.ireturn, 1) := by decide +kernel
theorem d_Rc_isValueMet_67 : decode c_Rc_isValueMet 67 = .ok (.iload_n 3, 1) := by decide +kernel
theorem d_Rc_isValueMet_68 : decode c_Rc_isValueMet 68 = .ok (.iload_n 2, 1) := by decide +kernel
theorem d_Rc_isValueMet_69 : decode c_Rc_isValueMet 69 = .ok (.invokestatic 77, 3) := by decide +kernel
theorem d_Rc_isValueMet_72 : decode c_Rc_isValueMet 72 = .ok (.ireturn, 1) := by decide +kernel
theorem d_Rc_isBeginning_0 : decode c_Rc_isBeginning 0 = .ok (.iload_n 0, 1) := by decide +kernel
theorem d_Rc_isBeginning_1 : decode c_Rc_isBeginning 1 = .ok (.ifCond .ne 13, 3) := by decide +kernel
theorem d_Rc_isBeginning_4 : decode c_Rc_isBeginning 4 = .ok (.iload_n 1, 1) := by decide +kernel
theorem d_Rc_isBeginning_5 : decode c_Rc_isBeginning 5 = .ok (.ifCond .ne 7, 3) := by decide +kernel
theorem d_Rc_isBeginning_8 : decode c_Rc_isBeginning 8 = .ok (.iconst 1, 1) := by decide +kernel
theorem d_Rc_isBeginning_9 : decode c_Rc_isBeginning 9 = .ok (.goto 4, 3) := by decide +kernel
theorem d_Rc_isBeginning_12 : decode c_Rc_isBeginning 12 = .ok (.iconst 0, 1) := by decide +kernel
theorem d_Rc_isBeginning_13 : decode c_Rc_isBeginning 13 = .ok (.ireturn, 1) := by decide +kernel
theorem d_Rc_isBeginning_14 : decode c_Rc_isBeginning 14 = .ok (.iload_n 1, 1) := by decide +kernel
theorem d_Rc_isBeginning_15 : decode c_Rc_isBeginning 15 = .ok (.istore_n 2, 1) := by decide +kernel
theorem d_Rc_isBeginning_16 : decode c_Rc_isBeginning 16 = .ok (.iconst 0, 1) := by decide +kernel
theorem d_Rc_isBeginning_17 : decode c_Rc_isBeginning 17 = .ok (.istore_n 3, 1) := by decide +kernel
theorem d_Rc_isBeginning_18 : decode c_Rc_isBeginning 18 = .ok (.iload_n 3, 1) := by decide +kernel
theorem d_Rc_isBeginning_19 : decode c_Rc_isBeginning 19 = .ok (.iconst 5, 1) := by decide +kernel
theorem d_Rc_isBeginning_20 : decode c_Rc_isBeginning 20 = .ok (.if_icmp .ge 19, 3) := by decide +kernel
theorem d_Rc_isBeginning_23 : decode c_Rc_isBeginning 23 = .ok (.iload_n 2, 1) := by decide +kernel
theorem d_Rc_isBeginning_24 : decode c_Rc_isBeginning 24 = .ok (.iload_n 0, 1) := by decide +kernel
theorem d_Rc_isBeginning_25 : decode c_Rc_isBeginning 25 = .ok (.if_icmp .le 14, 3) := by decide +kernel
theorem d_Rc_isBeginning_28 : decode c_Rc_isBeginning 28 = .ok (.iload_n 2, 1) := by decide +kernel
theorem d_Rc_isBeginning_29 : decode c_Rc_isBeginning 29 = .ok (.bipush 10, 2) := by decide +kernel
theorem d_Rc_isBeginning_31 : decode c_Rc_isBeginning 31 = .ok (.idiv, 1) := by decide +kernel
theorem d_Rc_isBeginning_32 : decode c_Rc_isBeginning 32 = .ok (.istore_n 2, 1) := by decide +kernel
theorem d_Rc_isBeginning_33 : decode c_Rc_isBeginning 33 = .ok (.iinc 3 1, 3) := by decide +kernel
theorem d_Rc_isBeginning_36 : decode c_Rc_isBeginning 36 = .ok (.goto (-18), 3) := by decide +kernel
theorem d_Rc_isBeginning_39 : decode c_Rc_isBeginning 39 = .ok (.iload_n 2, 1) := by decide +kernel
theorem d_Rc_isBeginning_40 : decode c_Rc_isBeginning 40 = .ok (.iload_n 0, 1) := by decide +kernel
theorem d_Rc_isBeginning_41 : decode c_Rc_isBeginning 41 = .ok (.if_icmp .ne 7, 3) := by decide +kernel
theorem d_Rc_isBeginning_44 : decode c_Rc_isBeginning 44 = .ok (.iconst 1, 1) := by decide +kernel
theorem d_Rc_isBeginning_45 : decode c_Rc_isBeginning 45 = .ok (.goto 4, 3) := by decide +kernel
theorem d_Rc_isBeginning_48 : decode c_Rc_isBeginning 48 = .ok (.iconst 0, 1) := by decide +kernel
theorem d_Rc_isBeginning_49 : decode c_Rc_isBeginning 49 = .ok (.ireturn, 1) := by decide +kernel
end
section
theorem d_Mo_init_0 : decode c_Mo_init 0 = .ok (.aload_n 0, 1) := by decide +kernel
theorem d_Mo_init_1 : decode c_Mo_init 1 = .ok (.invokespecial 1, 3) := by decide +kernel
theorem d_Mo_init_4 : decode c_Mo_init 4 = .ok (.aload_n 0, 1) := by decide +kernel
theorem d_Mo_init_5 : decode c_Mo_init 5 = .ok (.sipush 200, 3) := by decide +kernel
theorem d_Mo_init_8 : decode c_Mo_init 8 = .ok (.newarray .byte, 2) := by decide +kernel
theorem d_Mo_init_10 : decode c_Mo_init 10 = .ok (.putfield 7, 3) := by decide +kernel
theorem d_Mo_init_13 : decode c_Mo_init 13 = .ok (.aload_n 0, 1) := by decide +kernel
theorem d_Mo_init_14 : decode c_Mo_init 14 = .ok (.bipush 64, 2) := by decide +kernel
theorem d_Mo_init_16 : decode c_Mo_init 16 = .ok (.newarray .byte, 2) := by decide +kernel
theorem d_Mo_init_18 : decode c_Mo_init 18 = .ok (.putfield 13, 3) := by decide +kernel
theorem d_Mo_init_21 : decode c_Mo_init 21 = .ok (.aload_n 0, 1) := by decide +kernel
theorem d_Mo_init_22 : decode c_Mo_init 22 = .ok (.bipush 8, 2) := by decide +kernel
theorem d_Mo_init_24 : decode c_Mo_init 24 = .ok (.newarray .int, 2) := by decide +kernel
theorem d_Mo_init_26 : decode c_Mo_init 26 = .ok (.putfield 16, 3) := by decide +kernel
theorem d_Mo_init_29 : decode c_Mo_init 29 = .ok (.aload_n 0, 1) := by decide +kernel
theorem d_Mo_init_30 : decode c_Mo_init 30 = .ok (.bipush 8, 2) := by decide +kernel
theorem d_Mo_init_32 : decode c_Mo_init 32 = .ok (.newarray .boolean, 2) := by decide +kernel
theorem d_Mo_init_34 : decode c_Mo_init 34 = .ok (.putfield 20, 3) := by decide +kernel
theorem d_Mo_init_37 : decode c_Mo_init 37 = .ok (.aload_n 0, 1) := by decide +kernel
theorem d_Mo_init_38 : decode c_Mo_init 38 = .ok (.sipush 200, 3) := by decide +kernel
theorem d_Mo_init_41 : decode c_Mo_init 41 = .ok (.newarray .byte, 2) := by decide +kernel
theorem d_Mo_init_43 : decode c_Mo_init 43 = .ok (.putfield 24, 3) := by decide +kernel
theorem d_Mo_init_46 : decode c_Mo_init 46 = .ok (.aload_n 0, 1) := by decide +kernel
theorem d_Mo_init_47 : decode c_Mo_init 47 = .ok (.sipush 160, 3) := by decide +kernel
theorem d_Mo_init_50 : decode c_Mo_init 50 = .ok (.newarray .int, 2) := by decide +kernel
theorem d_Mo_init_52 : decode c_Mo_init 52 = .ok (.putfield 27, 3) := by decide +kernel
theorem d_Mo_init_55 : decode c_Mo_init 55 = .ok (.aload_n 0, 1) := by decide +kernel
theorem d_Mo_init_56 : decode c_Mo_init 56 = .ok (.bipush 40, 2) := by decide +kernel
theorem d_Mo_init_58 : decode c_Mo_init 58 = .ok (.newarray .int, 2) := by decide +kernel
theorem d_Mo_init_60 : decode c_Mo_init 60 = .ok (.putfield 30, 3) := by decide +kernel
theorem d_Mo_init_63 : decode c_Mo_init 63 = .ok (.aload_n 0, 1) := by decide +kernel
theorem d_Mo_init_64 : decode c_Mo_init 64 = .ok (.bipush 80, 2) := by decide +kernel
theorem d_Mo_init_66 : decode c_Mo_init 66 = .ok (.newarray .int, 2) := by decide +kernel
theorem d_Mo_init_68 : decode c_Mo_init 68 = .ok (.putfield 33, 3) := by decide +kernel
theorem d_Mo_init_71 : decode c_Mo_init 71 = .ok (.aload_n 0, 1) := by decide +kernel
theorem d_Mo_init_72 : decode c_Mo_init 72 = .ok (.sipush 1760, 3) := by decide +kernel
theorem d_Mo_init_75 : decode c_Mo_init 75 = .ok (.newarray .int, 2) := by decide +kernel
theorem d_Mo_init_77 : decode c_Mo_init 77 = .ok (.putfield 36, 3) := by decide +kernel
theorem d_Mo_init_80 : decode c_Mo_init 80 = .ok (.aload_n 0, 1) := by decide +kernel
theorem d_Mo_init_81 : decode c_Mo_init 81 = .ok (.bipush 11, 2) := by decide +kernel
theorem d_Mo_init_83 : decode c_Mo_init 83 = .ok (.newarray .int, 2) := by decide +kernel
theorem d_Mo_init_85 : decode c_Mo_init 85 = .ok (.putfield 39, 3) := by decide +kernel
theorem d_Mo_init_88 : decode c_Mo_init 88 = .ok (.aload_n 0, 1) := by decide +kernel
theorem d_Mo_init_89 : decode c_Mo_init 89 = .ok (.bipush 10, 2) := by decide +kernel
theorem d_Mo_init_91 : decode c_Mo_init 91 = .ok (.newarray .boolean, 2) := by decide +kernel
theorem d_Mo_init_93 : decode c_Mo_init 93 = .ok (.putfield 42, 3) := by decide +kernel
theorem d_Mo_init_96 : decode c_Mo_init 96 = .ok (.aload_n 0, 1) := by decide +kernel
theorem d_Mo_init_97 : decode c_Mo_init 97 = .ok (.bipush 10, 2) := by decide +kernel
theorem d_Mo_init_99 : decode c_Mo_init 99 = .ok (.newarray .long, 2) := by decide +kernel
theorem d_Mo_init_101 : decode c_Mo_init 101 = .ok (.putfield 45, 3) := by decide +kernel
theorem d_Mo_init_104 : decode c_Mo_init 104 = .ok (.aload_n 0, 1) := by decide +kernel
theorem d_Mo_init_105 : decode c_Mo_init 105 = .ok (.bipush 61, 2) := by decide +kernel
theorem d_Mo_init_107 : decode c_Mo_init 107 = .ok (.newarray .long, 2) := by decide +kernel
theorem d_Mo_init_109 : decode c_Mo_init 109 = .ok (.putfield 49, 3) := by decide +kernel
theorem d_Mo_init_112 : decode c_Mo_init 112 = .ok (.aload_n 0, 1) := by decide +kernel
theorem d_Mo_init_113 : decode c_Mo_init 113 = .ok (.sipush 976, 3) := by decide +kernel
theorem d_Mo_init_116 : decode c_Mo_init 116 = .ok (.newarray .int, 2) := by decide +kernel
theorem d_Mo_init_118 : decode c_Mo_init 118 = .ok (.putfield 52, 3) := by decide +kernel
theorem d_Mo_init_121 : decode c_Mo_init 121 = .ok (.aload_n 0, 1) := by decide +kernel
theorem d_Mo_init_122 : decode c_Mo_init 122 = .ok (.bipush 61, 2) := by decide +kernel
theorem d_Mo_init_124 : decode c_Mo_init 124 = .ok (.newarray .int, 2) := by decide +kernel
theorem d_Mo_init_126 : decode c_Mo_init 126 = .ok (.putfield 55, 3) := by decide +kernel
theorem d_Mo_init_129 : decode c_Mo_init 129 = .ok (.aload_n 0, 1) := by decide +kernel
theorem d_Mo_init_130 : decode c_Mo_init 130 = .ok (.bipush 41, 2) := by decide +kernel
theorem d_Mo_init_132 : decode c_Mo_init 132 = .ok (.newarray .boolean, 2) := by decide +kernel
theorem d_Mo_init_134 : decode c_Mo_init 134 = .ok (.putfield 58, 3) := by decide +kernel
theorem d_Mo_init_137 : decode c_Mo_init 137 = .ok (.aload_n 0, 1) := by decide +kernel
theorem d_Mo_init_138 : decode c_Mo_init 138 = .ok (.bipush 60, 2) := by decide +kernel
theorem d_Mo_init_140 : decode c_Mo_init 140 = .ok (.newarray .int, 2) := by decide +kernel
theorem d_Mo_init_142 : decode c_Mo_init 142 = .ok (.putfield 61, 3) := by decide +kernel
theorem d_Mo_init_145 : decode c_Mo_init 145 = .ok (.aload_n 0, 1) := by decide +kernel
theorem d_Mo_init_146 : decode c_Mo_init 146 = .ok (.bipush 9, 2) := by decide +kernel
theorem d_Mo_init_148 : decode c_Mo_init 148 = .ok (.newarray .int, 2) := by decide +kernel
theorem d_Mo_init_150 : decode c_Mo_init 150 = .ok (.putfield 64, 3) := by decide +kernel
theorem d_Mo_init_153 : decode c_Mo_init 153 = .ok (.aload_n 0, 1) := by decide +kernel
theorem d_Mo_init_154 : decode c_Mo_init 154 = .ok (.bipush 9, 2) := by decide +kernel
theorem d_Mo_init_156 : decode c_Mo_init 156 = .ok (.newarray .int, 2) := by decide +kernel
theorem d_Mo_init_158 : decode c_Mo_init 158 = .ok (.putfield 67, 3) := by decide +kernel
theorem d_Mo_init_161 : decode c_Mo_init 161 = .ok (.return_, 1) := by decide +kernel
theorem d_Mo_sign_0 : decode c_Mo_sign 0 = .ok (.aload_n 0, 1) := by decide +kernel
theorem d_Mo_sign_1 : decode c_Mo_sign 1 = .ok (.iconst 0, 1) := by decide +kernel
theorem d_Mo_sign_2 : decode c_Mo_sign 2 = .ok (.putfield 70, 3) := by decide +kernel
theorem d_Mo_sign_5 : decode c_Mo_sign 5 = .ok (.aload_n 0, 1) := by decide +kernel
theorem d_Mo_sign_6 : decode c_Mo_sign 6 = .ok (.getfield 74, 3) := by decide +kernel
theorem d_Mo_sign_9 : decode c_Mo_sign 9 = .ok (.sipush 200, 3) := by decide +kernel
theorem d_Mo_sign_12 : decode c_Mo_sign 12 = .ok (.if_icmp .ge 24, 3) := by decide +kernel
theorem d_Mo_sign_15 : decode c_Mo_sign 15 = .ok (.aload_n 0, 1) := by decide +kernel
theorem d_Mo_sign_16 : decode c_Mo_sign 16 = .ok (.getfield 7, 3) := by decide +kernel
theorem d_Mo_sign_19 : decode c_Mo_sign 19 = .ok (.aload_n 0, 1) := by decide +kernel
theorem d_Mo_sign_20 : decode c_Mo_sign 20 = .ok (.getfield 74, 3) := by decide +kernel
theorem d_Mo_sign_23 : decode c_Mo_sign 23 = .ok (.iload_n 1, 1) := by decide +kernel
theorem d_Mo_sign_24 : decode c_Mo_sign 24 = .ok (.i2b, 1) := by decide +kernel
theorem d_Mo_sign_25 : decode c_Mo_sign 25 = .ok (.bastore, 1) := by decide +kernel
theorem d_Mo_sign_26 : decode c_Mo_sign 26 = .ok (.aload_n 0, 1) := by decide +kernel
theorem d_Mo_sign_27 : decode c_Mo_sign 27 = .ok (.dup, 1) := by decide +kernel
theorem d_Mo_sign_28 : decode c_Mo_sign 28 = .ok (.getfield 74, 3) := by decide +kernel
theorem d_Mo_sign_31 : decode c_Mo_sign 31 = .ok (.iconst 1, 1) := by decide +kernel
theorem d_Mo_sign_32 : decode c_Mo_sign 32 = .ok (.iadd, 1) := by decide +kernel
theorem d_Mo_sign_33 : decode c_Mo_sign 33 = .ok (.putfield 74, 3) := by decide +kernel
theorem d_Mo_sign_36 : decode c_Mo_sign 36 = .ok (.return_, 1) := by decide +kernel
theorem d_Mo_look_0 : decode c_Mo_look 0 = .ok (.iload_n 1, 1) := by decide +kernel
theorem d_Mo_look_1 : decode c_Mo_look 1 = .ok (.aload_n 0, 1) := by decide +kernel
theorem d_Mo_look_2 : decode c_Mo_look 2 = .ok (.getfield 74, 3) := by decide +kernel
theorem d_Mo_look_5 : decode c_Mo_look 5 = .ok (.if_icmp .ge 16, 3) := by decide +kernel
theorem d_Mo_look_8 : decode c_Mo_look 8 = .ok (.aload_n 0, 1) := by decide +kernel
theorem d_Mo_look_9 : decode c_Mo_look 9 = .ok (.getfield 7, 3) := by decide +kernel
theorem d_Mo_look_12 : decode c_Mo_look 12 = .ok (.iload_n 1, 1) := by decide +kernel
theorem d_Mo_look_13 : decode c_Mo_look 13 = .ok (.baload, 1) := by decide +kernel
theorem d_Mo_look_14 : decode c_Mo_look 14 = .ok (.sipush 255, 3) := by decide +kernel
theorem d_Mo_look_17 : decode c_Mo_look 17 = .ok (.iand, 1) := by decide +kernel
theorem d_Mo_look_18 : decode c_Mo_look 18 = .ok (.goto 4, 3) := by decide +kernel
theorem d_Mo_look_21 : decode c_Mo_look 21 = .ok (.iconst (-1), 1) := by decide +kernel
theorem d_Mo_look_22 : decode c_Mo_look 22 = .ok (.ireturn, 1) := by decide +kernel
theorem d_Mo_isLetter_0 : decode c_Mo_isLetter 0 = .ok (.iload_n 0, 1) := by decide +kernel
theorem d_Mo_isLetter_1 : decode c_Mo_isLetter 1 = .ok (.bipush 97, 2) := by decide +kernel
theorem d_Mo_isLetter_3 : decode c_Mo_isLetter 3 = .ok (.if_icmp .lt 13, 3) := by decide +kernel
theorem d_Mo_isLetter_6 : decode c_Mo_isLetter 6 = .ok (.iload_n 0, 1) := by decide +kernel
theorem d_Mo_isLetter_7 : decode c_Mo_isLetter 7 = .ok (.bipush 122, 2) := by decide +kernel
theorem d_Mo_isLetter_9 : decode c_Mo_isLetter 9 = .ok (.if_icmp .gt 7, 3) := by decide +kernel
theorem d_Mo_isLetter_12 : decode c_Mo_isLetter 12 = .ok (.iconst 1, 1) := by decide +kernel
theorem d_Mo_isLetter_13 : decode c_Mo_isLetter 13 = .ok (.goto 4, 3) := by decide +kernel
theorem d_Mo_isLetter_16 : decode c_Mo_isLetter 16 = .ok (.iconst 0, 1) := by decide +kernel
theorem d_Mo_isLetter_17 : decode c_Mo_isLetter 17 = .ok (.ireturn, 1) := by decide +kernel
theorem d_Mo_isDigit_0 : decode c_Mo_isDigit 0 = .ok (.iload_n 0, 1) := by decide +kernel
theorem d_Mo_isDigit_1 : decode c_Mo_isDigit 1 = .ok (.bipush 48, 2) := by decide +kernel
theorem d_Mo_isDigit_3 : decode c_Mo_isDigit 3 = .ok (.if_icmp .lt 13, 3) := by decide +kernel
theorem d_Mo_isDigit_6 : decode c_Mo_isDigit 6 = .ok (.iload_n 0, 1) := by decide +kernel
theorem d_Mo_isDigit_7 : decode c_Mo_isDigit 7 = .ok (.bipush 57, 2) := by decide +kernel
theorem d_Mo_isDigit_9 : decode c_Mo_isDigit 9 = .ok (.if_icmp .gt 7, 3) := by decide +kernel
theorem d_Mo_isDigit_12 : decode c_Mo_isDigit 12 = .ok (.iconst 1, 1) := by decide +kernel
theorem d_Mo_isDigit_13 : decode c_Mo_isDigit 13 = .ok (.goto 4, 3) := by decide +kernel
theorem d_Mo_isDigit_16 : decode c_Mo_isDigit 16 = .ok (.iconst 0, 1) := by decide +kernel
theorem d_Mo_isDigit_17 : decode c_Mo_isDigit 17 = .ok (.ireturn, 1) := by decide +kernel
theorem d_Mo_letters_0 : decode c_Mo_letters 0 = .ok (.iconst 0, 1) := by decide +kernel
theorem d_Mo_letters_1 : decode c_Mo_letters 1 = .ok (.istore_n 2, 1) := by decide +kernel
theorem d_Mo_letters_2 : decode c_Mo_letters 2 = .ok (.aload_n 0, 1) := by decide +kernel
theorem d_Mo_letters_3 : decode c_Mo_letters 3 = .ok (.iload_n 1, 1) := by decide +kernel
theorem d_Mo_letters_4 : decode c_Mo_letters 4 = .ok (.iload_n 2, 1) := by decide +kernel
theorem d_Mo_letters_5 : decode c_Mo_letters 5 = .ok (.iadd, 1) := by decide +kernel
theorem d_Mo_letters_6 : decode c_Mo_letters 6 = .ok (.invokevirtual 77, 3) := by decide +kernel
theorem d_Mo_letters_9 : decode c_Mo_letters 9 = .ok (.invokestatic 81, 3) := by decide +kernel
theorem d_Mo_letters_12 : decode c_Mo_letters 12 = .ok (.ifCond .eq 9, 3) := by decide +kernel
theorem d_Mo_letters_15 : decode c_Mo_letters 15 = .ok (.iinc 2 1, 3) := by decide +kernel
theorem d_Mo_letters_18 : decode c_Mo_letters 18 = .ok (.goto (-16), 3) := by decide +kernel
theorem d_Mo_letters_21 : decode c_Mo_letters 21 = .ok (.iload_n 2, 1) := by decide +kernel
theorem d_Mo_letters_22 : decode c_Mo_letters 22 = .ok (.ireturn, 1) := by decide +kernel
theorem d_Mo_named_0 : decode c_Mo_named 0 = .ok (.iconst 0, 1) := by decide +kernel
theorem d_Mo_named_1 : decode c_Mo_named 1 = .ok (.istore_n 3, 1) := by decide +kernel
theorem d_Mo_named_2 : decode c_Mo_named 2 = .ok (.iload_n 3, 1) := by decide +kernel
theorem d_Mo_named_3 : decode c_Mo_named 3 = .ok (.aload_n 0, 1) := by decide +kernel
theorem d_Mo_named_4 : decode c_Mo_named 4 = .ok (.getfield 85, 3) := by decide +kernel
theorem d_Mo_named_7 : decode c_Mo_named 7 = .ok (.if_icmp .ge 84, 3) := by decide +kernel
theorem d_Mo_named_10 : decode c_Mo_named 10 = .ok (.aload_n 0, 1) := by decide +kernel
theorem d_Mo_named_11 : decode c_Mo_named 11 = .ok (.getfield 16, 3) := by decide +kernel
theorem d_Mo_named_14 : decode c_Mo_named 14 = .ok (.iload_n 3, 1) := by decide +kernel
theorem d_Mo_named_15 : decode c_Mo_named 15 = .ok (.iaload, 1) := by decide +kernel
theorem d_Mo_named_16 : decode c_Mo_named 16 = .ok (.iload_n 2, 1) := by decide +kernel
theorem d_Mo_named_17 : decode c_Mo_named 17 = .ok (.if_icmp .ne 7, 3) := by decide +kernel
theorem d_Mo_named_20 : decode c_Mo_named 20 = .ok (.iconst 1, 1) := by decide +kernel
theorem d_Mo_named_21 : decode c_Mo_named 21 = .ok (.goto 4, 3) := by decide +kernel
theorem d_Mo_named_24 : decode c_Mo_named 24 = .ok (.iconst 0, 1) := by decide +kernel
theorem d_Mo_named_25 : decode c_Mo_named 25 = .ok (.istore 4, 2) := by decide +kernel
theorem d_Mo_named_27 : decode c_Mo_named 27 = .ok (.iconst 0, 1) := by decide +kernel
theorem d_Mo_named_28 : decode c_Mo_named 28 = .ok (.istore 5, 2) := by decide +kernel
theorem d_Mo_named_30 : decode c_Mo_named 30 = .ok (.iload 5, 2) := by decide +kernel
theorem d_Mo_named_32 : decode c_Mo_named 32 = .ok (.iload_n 2, 1) := by decide +kernel
theorem d_Mo_named_33 : decode c_Mo_named 33 = .ok (.if_icmp .ge 45, 3) := by decide +kernel
theorem d_Mo_named_36 : decode c_Mo_named 36 = .ok (.iload 4, 2) := by decide +kernel
theorem d_Mo_named_38 : decode c_Mo_named 38 = .ok (.ifCond .eq 40, 3) := by decide +kernel
theorem d_Mo_named_41 : decode c_Mo_named 41 = .ok (.aload_n 0, 1) := by decide +kernel
theorem d_Mo_named_42 : decode c_Mo_named 42 = .ok (.getfield 13, 3) := by decide +kernel
theorem d_Mo_named_45 : decode c_Mo_named 45 = .ok (.bipush 8, 2) := by decide +kernel
theorem d_Mo_named_47 : decode c_Mo_named 47 = .ok (.iload_n 3, 1) := by decide +kernel
theorem d_Mo_named_48 : decode c_Mo_named 48 = .ok (.imul, 1) := by decide +kernel
theorem d_Mo_named_49 : decode c_Mo_named 49 = .ok (.iload 5, 2) := by decide +kernel
theorem d_Mo_named_51 : decode c_Mo_named 51 = .ok (.iadd, 1) := by decide +kernel
theorem d_Mo_named_52 : decode c_Mo_named 52 = .ok (.baload, 1) := by decide +kernel
theorem d_Mo_named_53 : decode c_Mo_named 53 = .ok (.aload_n 0, 1) := by decide +kernel
theorem d_Mo_named_54 : decode c_Mo_named 54 = .ok (.getfield 7, 3) := by decide +kernel
theorem d_Mo_named_57 : decode c_Mo_named 57 = .ok (.iload_n 1, 1) := by decide +kernel
theorem d_Mo_named_58 : decode c_Mo_named 58 = .ok (.iload 5, 2) := by decide +kernel
theorem d_Mo_named_60 : decode c_Mo_named 60 = .ok (.iadd, 1) := by decide +kernel
theorem d_Mo_named_61 : decode c_Mo_named 61 = .ok (.baload, 1) := by decide +kernel
theorem d_Mo_named_62 : decode c_Mo_named 62 = .ok (.if_icmp .ne 7, 3) := by decide +kernel
theorem d_Mo_named_65 : decode c_Mo_named 65 = .ok (.iconst 1, 1) := by decide +kernel
theorem d_Mo_named_66 : decode c_Mo_named 66 = .ok (.goto 4, 3) := by decide +kernel
theorem d_Mo_named_69 : decode c_Mo_named 69 = .ok (.iconst 0, 1) := by decide +kernel
theorem d_Mo_named_70 : decode c_Mo_named 70 = .ok (.istore 4, 2) := by decide +kernel
theorem d_Mo_named_72 : decode c_Mo_named 72 = .ok (.iinc 5 1, 3) := by decide +kernel
theorem d_Mo_named_75 : decode c_Mo_named 75 = .ok (.goto (-45), 3) := by decide +kernel
theorem d_Mo_named_78 : decode c_Mo_named 78 = .ok (.iload 4, 2) := by decide +kernel
theorem d_Mo_named_80 : decode c_Mo_named 80 = .ok (.ifCond .eq 5, 3) := by decide +kernel
theorem d_Mo_named_83 : decode c_Mo_named 83 = .ok (.iload_n 3, 1) := by decide +kernel
theorem d_Mo_named_84 : decode c_Mo_named 84 = .ok (.ireturn, 1) := by decide +kernel
theorem d_Mo_named_85 : decode c_Mo_named 85 = .ok (.iinc 3 1, 3) := by decide +kernel
theorem d_Mo_named_88 : decode c_Mo_named 88 = .ok (.goto (-86), 3) := by decide +kernel
theorem d_Mo_named_91 : decode c_Mo_named 91 = .ok (.iconst (-1), 1) := by decide +kernel
theorem d_Mo_named_92 : decode c_Mo_named 92 = .ok (.ireturn, 1) := by decide +kernel
theorem d_Mo_word_0 : decode c_Mo_word 0 = .ok (.aload_n 0, 1) := by decide +kernel
theorem d_Mo_word_1 : decode c_Mo_word 1 = .ok (.iload_n 1, 1) := by decide +kernel
theorem d_Mo_word_2 : decode c_Mo_word 2 = .ok (.invokevirtual 77, 3) := by decide +kernel
theorem d_Mo_word_5 : decode c_Mo_word 5 = .ok (.istore_n 3, 1) := by decide +kernel
theorem d_Mo_word_6 : decode c_Mo_word 6 = .ok (.aload_n 0, 1) := by decide +kernel
theorem d_Mo_word_7 : decode c_Mo_word 7 = .ok (.iload_n 1, 1) := by decide +kernel
theorem d_Mo_word_8 : decode c_Mo_word 8 = .ok (.iconst 1, 1) := by decide +kernel
theorem d_Mo_word_9 : decode c_Mo_word 9 = .ok (.iadd, 1) := by decide +kernel
theorem d_Mo_word_10 : decode c_Mo_word 10 = .ok (.invokevirtual 77, 3) := by decide +kernel
theorem d_Mo_word_13 : decode c_Mo_word 13 = .ok (.istore 4, 2) := by decide +kernel
theorem d_Mo_word_15 : decode c_Mo_word 15 = .ok (.aload_n 0, 1) := by decide +kernel
theorem d_Mo_word_16 : decode c_Mo_word 16 = .ok (.iload_n 1, 1) := by decide +kernel
theorem d_Mo_word_17 : decode c_Mo_word 17 = .ok (.iconst 2, 1) := by decide +kernel
theorem d_Mo_word_18 : decode c_Mo_word 18 = .ok (.iadd, 1) := by decide +kernel
theorem d_Mo_word_19 : decode c_Mo_word 19 = .ok (.invokevirtual 77, 3) := by decide +kernel
theorem d_Mo_word_22 : decode c_Mo_word 22 = .ok (.istore 5, 2) := by decide +kernel
theorem d_Mo_word_24 : decode c_Mo_word 24 = .ok (.iload_n 2, 1) := by decide +kernel
theorem d_Mo_word_25 : decode c_Mo_word 25 = .ok (.iconst 3, 1) := by decide +kernel
theorem d_Mo_word_26 : decode c_Mo_word 26 = .ok (.if_icmp .ne 27, 3) := by decide +kernel
theorem d_Mo_word_29 : decode c_Mo_word 29 = .ok (.iload_n 3, 1) := by decide +kernel
theorem d_Mo_word_30 : decode c_Mo_word 30 = .ok (.bipush 97, 2) := by decide +kernel
theorem d_Mo_word_32 : decode c_Mo_word 32 = .ok (.if_icmp .ne 21, 3) := by decide +kernel
theorem d_Mo_word_35 : decode c_Mo_word 35 = .ok (.iload 4, 2) := by decide +kernel
theorem d_Mo_word_37 : decode c_Mo_word 37 = .ok (.bipush 110, 2) := by decide +kernel
theorem d_Mo_word_39 : decode c_Mo_word 39 = .ok (.if_icmp .ne 14, 3) := by decide +kernel
theorem d_Mo_word_42 : decode c_Mo_word 42 = .ok (.iload 5, 2) := by decide +kernel
theorem d_Mo_word_44 : decode c_Mo_word 44 = .ok (.bipush 100, 2) := by decide +kernel
theorem d_Mo_word_46 : decode c_Mo_word 46 = .ok (.if_icmp .ne 7, 3) := by decide +kernel
theorem d_Mo_word_49 : decode c_Mo_word 49 = .ok (.iconst 3, 1) := by decide +kernel
theorem d_Mo_word_50 : decode c_Mo_word 50 = .ok (.goto 55, 3) := by decide +kernel
theorem d_Mo_word_53 : decode c_Mo_word 53 = .ok (.iload_n 2, 1) := by decide +kernel
theorem d_Mo_word_54 : decode c_Mo_word 54 = .ok (.iconst 2, 1) := by decide +kernel
theorem d_Mo_word_55 : decode c_Mo_word 55 = .ok (.if_icmp .ne 20, 3) := by decide +kernel
theorem d_Mo_word_58 : decode c_Mo_word 58 = .ok (.iload_n 3, 1) := by decide +kernel
theorem d_Mo_word_59 : decode c_Mo_word 59 = .ok (.bipush 111, 2) := by decide +kernel
theorem d_Mo_word_61 : decode c_Mo_word 61 = .ok (.if_icmp .ne 14, 3) := by decide +kernel
theorem d_Mo_word_64 : decode c_Mo_word 64 = .ok (.iload 4, 2) := by decide +kernel
theorem d_Mo_word_66 : decode c_Mo_word 66 = .ok (.bipush 114, 2) := by decide +kernel
theorem d_Mo_word_68 : decode c_Mo_word 68 = .ok (.if_icmp .ne 7, 3) := by decide +kernel
theorem d_Mo_word_71 : decode c_Mo_word 71 = .ok (.iconst 4, 1) := by decide +kernel
theorem d_Mo_word_72 : decode c_Mo_word 72 = .ok (.goto 33, 3) := by decide +kernel
theorem d_Mo_word_75 : decode c_Mo_word 75 = .ok (.iload_n 2, 1) := by decide +kernel
theorem d_Mo_word_76 : decode c_Mo_word 76 = .ok (.iconst 3, 1) := by decide +kernel
theorem d_Mo_word_77 : decode c_Mo_word 77 = .ok (.if_icmp .ne 27, 3) := by decide +kernel
theorem d_Mo_word_80 : decode c_Mo_word 80 = .ok (.iload_n 3, 1) := by decide +kernel
theorem d_Mo_word_81 : decode c_Mo_word 81 = .ok (.bipush 110, 2) := by decide +kernel
theorem d_Mo_word_83 : decode c_Mo_word 83 = .ok (.if_icmp .ne 21, 3) := by decide +kernel
theorem d_Mo_word_86 : decode c_Mo_word 86 = .ok (.iload 4, 2) := by decide +kernel
theorem d_Mo_word_88 : decode c_Mo_word 88 = .ok (.bipush 111, 2) := by decide +kernel
theorem d_Mo_word_90 : decode c_Mo_word 90 = .ok (.if_icmp .ne 14, 3) := by decide +kernel
theorem d_Mo_word_93 : decode c_Mo_word 93 = .ok (.iload 5, 2) := by decide +kernel
theorem d_Mo_word_95 : decode c_Mo_word 95 = .ok (.bipush 116, 2) := by decide +kernel
theorem d_Mo_word_97 : decode c_Mo_word 97 = .ok (.if_icmp .ne 7, 3) := by decide +kernel
theorem d_Mo_word_100 : decode c_Mo_word 100 = .ok (.iconst 5, 1) := by decide +kernel
theorem d_Mo_word_101 : decode c_Mo_word 101 = .ok (.goto 4, 3) := by decide +kernel
theorem d_Mo_word_104 : decode c_Mo_word 104 = .ok (.iconst 0, 1) := by decide +kernel
theorem d_Mo_word_105 : decode c_Mo_word 105 = .ok (.ireturn, 1) := by decide +kernel
theorem d_Mo_index_0 : decode c_Mo_index 0 = .ok (.aload_n 0, 1) := by decide +kernel
theorem d_Mo_index_1 : decode c_Mo_index 1 = .ok (.iconst 0, 1) := by decide +kernel
theorem d_Mo_index_2 : decode c_Mo_index 2 = .ok (.putfield 70, 3) := by decide +kernel
theorem d_Mo_index_5 : decode c_Mo_index 5 = .ok (.aload_n 0, 1) := by decide +kernel
theorem d_Mo_index_6 : decode c_Mo_index 6 = .ok (.iconst 0, 1) := by decide +kernel
theorem d_Mo_index_7 : decode c_Mo_index 7 = .ok (.invokevirtual 88, 3) := by decide +kernel
theorem d_Mo_index_10 : decode c_Mo_index 10 = .ok (.istore_n 1, 1) := by decide +kernel
theorem d_Mo_index_11 : decode c_Mo_index 11 = .ok (.iload_n 1, 1) := by decide +kernel
theorem d_Mo_index_12 : decode c_Mo_index 12 = .ok (.ifCond .le 49, 3) := by decide +kernel
theorem d_Mo_index_15 : decode c_Mo_index 15 = .ok (.iload_n 1, 1) := by decide +kernel
theorem d_Mo_index_16 : decode c_Mo_index 16 = .ok (.bipush 9, 2) := by decide +kernel
theorem d_Mo_index_18 : decode c_Mo_index 18 = .ok (.if_icmp .ge 43, 3) := by decide +kernel
theorem d_Mo_index_21 : decode c_Mo_index 21 = .ok (.iload_n 1, 1) := by decide +kernel
theorem d_Mo_index_22 : decode c_Mo_index 22 = .ok (.aload_n 0, 1) := by decide +kernel
theorem d_Mo_index_23 : decode c_Mo_index 23 = .ok (.getfield 74, 3) := by decide +kernel
theorem d_Mo_index_26 : decode c_Mo_index 26 = .ok (.if_icmp .ne 35, 3) := by decide +kernel
theorem d_Mo_index_29 : decode c_Mo_index 29 = .ok (.aload_n 0, 1) := by decide +kernel
theorem d_Mo_index_30 : decode c_Mo_index 30 = .ok (.iconst 0, 1) := by decide +kernel
theorem d_Mo_index_31 : decode c_Mo_index 31 = .ok (.iload_n 1, 1) := by decide +kernel
theorem d_Mo_index_32 : decode c_Mo_index 32 = .ok (.invokevirtual 91, 3) := by decide +kernel
theorem d_Mo_index_35 : decode c_Mo_index 35 = .ok (.ifCond .ne 26, 3) := by decide +kernel
theorem d_Mo_index_38 : decode c_Mo_index 38 = .ok (.aload_n 0, 1) := by decide +kernel
theorem d_Mo_index_39 : decode c_Mo_index 39 = .ok (.iconst 0, 1) := by decide +kernel
theorem d_Mo_index_40 : decode c_Mo_index 40 = .ok (.iload_n 1, 1) := by decide +kernel
theorem d_Mo_index_41 : decode c_Mo_index 41 = .ok (.invokevirtual 95, 3) := by decide +kernel
theorem d_Mo_index_44 : decode c_Mo_index 44 = .ok (.iconst (-1), 1) := by decide +kernel
theorem d_Mo_index_45 : decode c_Mo_index 45 = .ok (.if_icmp .ne 16, 3) := by decide +kernel
theorem d_Mo_index_48 : decode c_Mo_index 48 = .ok (.aload_n 0, 1) := by decide +kernel
theorem d_Mo_index_49 : decode c_Mo_index 49 = .ok (.getfield 85, 3) := by decide +kernel
theorem d_Mo_index_52 : decode c_Mo_index 52 = .ok (.bipush 8, 2) := by decide +kernel
theorem d_Mo_index_54 : decode c_Mo_index 54 = .ok (.if_icmp .ge 7, 3) := by decide +kernel
theorem d_Mo_index_57 : decode c_Mo_index 57 = .ok (.iconst 1, 1) := by decide +kernel
theorem d_Mo_index_58 : decode c_Mo_index 58 = .ok (.goto 4, 3) := by decide +kernel
theorem d_Mo_index_61 : decode c_Mo_index 61 = .ok (.iconst 0, 1) := by decide +kernel
theorem d_Mo_index_62 : decode c_Mo_index 62 = .ok (.istore_n 2, 1) := by decide +kernel
theorem d_Mo_index_63 : decode c_Mo_index 63 = .ok (.aload_n 0, 1) := by decide +kernel
theorem d_Mo_index_64 : decode c_Mo_index 64 = .ok (.iconst 0, 1) := by decide +kernel
theorem d_Mo_index_65 : decode c_Mo_index 65 = .ok (.putfield 74, 3) := by decide +kernel
theorem d_Mo_index_68 : decode c_Mo_index 68 = .ok (.iload_n 2, 1) := by decide +kernel
theorem d_Mo_index_69 : decode c_Mo_index 69 = .ok (.ifCond .ne 5, 3) := by decide +kernel
theorem d_Mo_index_72 : decode c_Mo_index 72 = .ok (.iconst (-1), 1) := by decide +kernel
theorem d_Mo_index_73 : decode c_Mo_index 73 = .ok (.ireturn, 1) := by decide +kernel
theorem d_Mo_index_74 : decode c_Mo_index 74 = .ok (.iconst 0, 1) := by decide +kernel
theorem d_Mo_index_75 : decode c_Mo_index 75 = .ok (.istore_n 3, 1) := by decide +kernel
theorem d_Mo_index_76 : decode c_Mo_index 76 = .ok (.iload_n 3, 1) := by decide +kernel
theorem d_Mo_index_77 : decode c_Mo_index 77 = .ok (.iload_n 1, 1) := by decide +kernel
theorem d_Mo_index_78 : decode c_Mo_index 78 = .ok (.if_icmp .ge 29, 3) := by decide +kernel
theorem d_Mo_index_81 : decode c_Mo_index 81 = .ok (.aload_n 0, 1) := by decide +kernel
theorem d_Mo_index_82 : decode c_Mo_index 82 = .ok (.getfield 13, 3) := by decide +kernel
theorem d_Mo_index_85 : decode c_Mo_index 85 = .ok (.bipush 8, 2) := by decide +kernel
theorem d_Mo_index_87 : decode c_Mo_index 87 = .ok (.aload_n 0, 1) := by decide +kernel
theorem d_Mo_index_88 : decode c_Mo_index 88 = .ok (.getfield 85, 3) := by decide +kernel
theorem d_Mo_index_91 : decode c_Mo_index 91 = .ok (.imul, 1) := by decide +kernel
theorem d_Mo_index_92 : decode c_Mo_index 92 = .ok (.iload_n 3, 1) := by decide +kernel
theorem d_Mo_index_93 : decode c_Mo_index 93 = .ok (.iadd, 1) := by decide +kernel
theorem d_Mo_index_94 : decode c_Mo_index 94 = .ok (.aload_n 0, 1) := by decide +kernel
theorem d_Mo_index_95 : decode c_Mo_index 95 = .ok (.getfield 7, 3) := by decide +kernel
theorem d_Mo_index_98 : decode c_Mo_index 98 = .ok (.iload_n 3, 1) := by decide +kernel
theorem d_Mo_index_99 : decode c_Mo_index 99 = .ok (.baload, 1) := by decide +kernel
theorem d_Mo_index_100 : decode c_Mo_index 100 = .ok (.bastore, 1) := by decide +kernel
theorem d_Mo_index_101 : decode c_Mo_index 101 = .ok (.iinc 3 1, 3) := by decide +kernel
theorem d_Mo_index_104 : decode c_Mo_index 104 = .ok (.goto (-28), 3) := by decide +kernel
theorem d_Mo_index_107 : decode c_Mo_index 107 = .ok (.aload_n 0, 1) := by decide +kernel
theorem d_Mo_index_108 : decode c_Mo_index 108 = .ok (.getfield 16, 3) := by decide +kernel
theorem d_Mo_index_111 : decode c_Mo_index 111 = .ok (.aload_n 0, 1) := by decide +kernel
theorem d_Mo_index_112 : decode c_Mo_index 112 = .ok (.getfield 85, 3) := by decide +kernel
theorem d_Mo_index_115 : decode c_Mo_index 115 = .ok (.iload_n 1, 1) := by decide +kernel
theorem d_Mo_index_116 : decode c_Mo_index 116 = .ok (.iastore, 1) := by decide +kernel
theorem d_Mo_index_117 : decode c_Mo_index 117 = .ok (.aload_n 0, 1) := by decide +kernel
theorem d_Mo_index_118 : decode c_Mo_index 118 = .ok (.dup, 1) := by decide +kernel
theorem d_Mo_index_119 : decode c_Mo_index 119 = .ok (.getfield 85, 3) := by decide +kernel
theorem d_Mo_index_122 : decode c_Mo_index 122 = .ok (.iconst 1, 1) := by decide +kernel
theorem d_Mo_index_123 : decode c_Mo_index 123 = .ok (.iadd, 1) := by decide +kernel
theorem d_Mo_index_124 : decode c_Mo_index 124 = .ok (.putfield 85, 3) := by decide +kernel
theorem d_Mo_index_127 : decode c_Mo_index 127 = .ok (.aload_n 0, 1) := by decide +kernel
theorem d_Mo_index_128 : decode c_Mo_index 128 = .ok (.getfield 85, 3) := by decide +kernel
theorem d_Mo_index_131 : decode c_Mo_index 131 = .ok (.iconst 1, 1) := by decide +kernel
theorem d_Mo_index_132 : decode c_Mo_index 132 = .ok (.isub, 1) := by decide +kernel
theorem d_Mo_index_133 : decode c_Mo_index 133 = .ok (.ireturn, 1) := by decide +kernel
theorem d_Mo_on_0 : decode c_Mo_on 0 = .ok (.aload_n 0, 1) := by decide +kernel
theorem d_Mo_on_1 : decode c_Mo_on 1 = .ok (.iconst 0, 1) := by decide +kernel
theorem d_Mo_on_2 : decode c_Mo_on 2 = .ok (.putfield 70, 3) := by decide +kernel
theorem d_Mo_on_5 : decode c_Mo_on 5 = .ok (.iload_n 1, 1) := by decide +kernel
theorem d_Mo_on_6 : decode c_Mo_on 6 = .ok (.ifCond .lt 11, 3) := by decide +kernel
theorem d_Mo_on_9 : decode c_Mo_on 9 = .ok (.iload_n 1, 1) := by decide +kernel
theorem d_Mo_on_10 : decode c_Mo_on 10 = .ok (.aload_n 0, 1) := by decide +kernel
theorem d_Mo_on_11 : decode c_Mo_on 11 = .ok (.getfield 85, 3) := by decide +kernel
theorem d_Mo_on_14 : decode c_Mo_on 14 = .ok (.if_icmp .lt 5, 3) := by decide +kernel
theorem d_Mo_on_17 : decode c_Mo_on 17 = .ok (.iconst 0, 1) := by decide +kernel
theorem d_Mo_on_18 : decode c_Mo_on 18 = .ok (.ireturn, 1) := by decide +kernel
theorem d_Mo_on_19 : decode c_Mo_on 19 = .ok (.aload_n 0, 1) := by decide +kernel
theorem d_Mo_on_20 : decode c_Mo_on 20 = .ok (.getfield 20, 3) := by decide +kernel
theorem d_Mo_on_23 : decode c_Mo_on 23 = .ok (.iload_n 1, 1) := by decide +kernel
theorem d_Mo_on_24 : decode c_Mo_on 24 = .ok (.baload, 1) := by decide +kernel
theorem d_Mo_on_25 : decode c_Mo_on 25 = .ok (.ifCond .ne 7, 3) := by decide +kernel
theorem d_Mo_on_28 : decode c_Mo_on 28 = .ok (.iconst 1, 1) := by decide +kernel
theorem d_Mo_on_29 : decode c_Mo_on 29 = .ok (.goto 4, 3) := by decide +kernel
theorem d_Mo_on_32 : decode c_Mo_on 32 = .ok (.iconst 0, 1) := by decide +kernel
theorem d_Mo_on_33 : decode c_Mo_on 33 = .ok (.istore_n 3, 1) := by decide +kernel
theorem d_Mo_on_34 : decode c_Mo_on 34 = .ok (.aload_n 0, 1) := by decide +kernel
theorem d_Mo_on_35 : decode c_Mo_on 35 = .ok (.getfield 20, 3) := by decide +kernel
theorem d_Mo_on_38 : decode c_Mo_on 38 = .ok (.iload_n 1, 1) := by decide +kernel
theorem d_Mo_on_39 : decode c_Mo_on 39 = .ok (.iload_n 2, 1) := by decide +kernel
theorem d_Mo_on_40 : decode c_Mo_on 40 = .ok (.ifCond .ne 7, 3) := by decide +kernel
theorem d_Mo_on_43 : decode c_Mo_on 43 = .ok (.iconst 1, 1) := by decide +kernel
theorem d_Mo_on_44 : decode c_Mo_on 44 = .ok (.goto 4, 3) := by decide +kernel
theorem d_Mo_on_47 : decode c_Mo_on 47 = .ok (.iconst 0, 1) := by decide +kernel
theorem d_Mo_on_48 : decode c_Mo_on 48 = .ok (.bastore, 1) := by decide +kernel
theorem d_Mo_on_49 : decode c_Mo_on 49 = .ok (.iload_n 3, 1) := by decide +kernel
theorem d_Mo_on_50 : decode c_Mo_on 50 = .ok (.ireturn, 1) := by decide +kernel
theorem d_Mo_bad_0 : decode c_Mo_bad 0 = .ok (.aload_n 0, 1) := by decide +kernel
theorem d_Mo_bad_1 : decode c_Mo_bad 1 = .ok (.iload_n 1, 1) := by decide +kernel
theorem d_Mo_bad_2 : decode c_Mo_bad 2 = .ok (.putfield 98, 3) := by decide +kernel
theorem d_Mo_bad_5 : decode c_Mo_bad 5 = .ok (.iconst 0, 1) := by decide +kernel
theorem d_Mo_bad_6 : decode c_Mo_bad 6 = .ok (.ireturn, 1) := by decide +kernel
theorem d_Mo_must_0 : decode c_Mo_must 0 = .ok (.aload_n 0, 1) := by decide +kernel
theorem d_Mo_must_1 : decode c_Mo_must 1 = .ok (.aload_n 0, 1) := by decide +kernel
theorem d_Mo_must_2 : decode c_Mo_must 2 = .ok (.getfield 101, 3) := by decide +kernel
theorem d_Mo_must_5 : decode c_Mo_must 5 = .ok (.invokevirtual 77, 3) := by decide +kernel
theorem d_Mo_must_8 : decode c_Mo_must 8 = .ok (.iload_n 1, 1) := by decide +kernel
theorem d_Mo_must_9 : decode c_Mo_must 9 = .ok (.if_icmp .eq 12, 3) := by decide +kernel
theorem d_Mo_must_12 : decode c_Mo_must 12 = .ok (.aload_n 0, 1) := by decide +kernel
theorem d_Mo_must_13 : decode c_Mo_must 13 = .ok (.aload_n 0, 1) := by decide +kernel
theorem d_Mo_must_14 : decode c_Mo_must 14 = .ok (.getfield 101, 3) := by decide +kernel
theorem d_Mo_must_17 : decode c_Mo_must 17 = .ok (.invokevirtual 104, 3) := by decide +kernel
theorem d_Mo_must_20 : decode c_Mo_must 20 = .ok (.ireturn, 1) := by decide +kernel
theorem d_Mo_must_21 : decode c_Mo_must 21 = .ok (.aload_n 0, 1) := by decide +kernel
theorem d_Mo_must_22 : decode c_Mo_must 22 = .ok (.dup, 1) := by decide +kernel
theorem d_Mo_must_23 : decode c_Mo_must 23 = .ok (.getfield 101, 3) := by decide +kernel
theorem d_Mo_must_26 : decode c_Mo_must 26 = .ok (.iconst 1, 1) := by decide +kernel
theorem d_Mo_must_27 : decode c_Mo_must 27 = .ok (.iadd, 1) := by decide +kernel
theorem d_Mo_must_28 : decode c_Mo_must 28 = .ok (.putfield 101, 3) := by decide +kernel
theorem d_Mo_must_31 : decode c_Mo_must 31 = .ok (.iconst 1, 1) := by decide +kernel
theorem d_Mo_must_32 : decode c_Mo_must 32 = .ok (.ireturn, 1) := by decide +kernel
theorem d_Mo_must2_0 : decode c_Mo_must2 0 = .ok (.aload_n 0, 1) := by decide +kernel
theorem d_Mo_must2_1 : decode c_Mo_must2 1 = .ok (.iload_n 1, 1) := by decide +kernel
theorem d_Mo_must2_2 : decode c_Mo_must2 2 = .ok (.invokevirtual 107, 3) := by decide +kernel
theorem d_Mo_must2_5 : decode c_Mo_must2 5 = .ok (.ifCond .eq 15, 3) := by decide +kernel
theorem d_Mo_must2_8 : decode c_Mo_must2 8 = .ok (.aload_n 0, 1) := by decide +kernel
theorem d_Mo_must2_9 : decode c_Mo_must2 9 = .ok (.iload_n 2, 1) := by decide +kernel
theorem d_Mo_must2_10 : decode c_Mo_must2 10 = .ok (.invokevirtual 107, 3) := by decide +kernel
theorem d_Mo_must2_13 : decode c_Mo_must2 13 = .ok (.ifCond .eq 7, 3) := by decide +kernel
theorem d_Mo_must2_16 : decode c_Mo_must2 16 = .ok (.iconst 1, 1) := by decide +kernel
theorem d_Mo_must2_17 : decode c_Mo_must2 17 = .ok (.goto 4, 3) := by decide +kernel
theorem d_Mo_must2_20 : decode c_Mo_must2 20 = .ok (.iconst 0, 1) := by decide +kernel
theorem d_Mo_must2_21 : decode c_Mo_must2 21 = .ok (.ireturn, 1) := by decide +kernel
theorem d_Mo_value_0 : decode c_Mo_value 0 = .ok (.aload_n 0, 1) := by decide +kernel
theorem d_Mo_value_1 : decode c_Mo_value 1 = .ok (.getfield 101, 3) := by decide +kernel
theorem d_Mo_value_4 : decode c_Mo_value 4 = .ok (.istore_n 1, 1) := by decide +kernel
theorem d_Mo_value_5 : decode c_Mo_value 5 = .ok (.iconst 0, 1) := by decide +kernel
theorem d_Mo_value_6 : decode c_Mo_value 6 = .ok (.istore_n 2, 1) := by decide +kernel
theorem d_Mo_value_7 : decode c_Mo_value 7 = .ok (.aload_n 0, 1) := by decide +kernel
theorem d_Mo_value_8 : decode c_Mo_value 8 = .ok (.aload_n 0, 1) := by decide +kernel
theorem d_Mo_value_9 : decode c_Mo_value 9 = .ok (.getfield 101, 3) := by decide +kernel
theorem d_Mo_value_12 : decode c_Mo_value 12 = .ok (.invokevirtual 77, 3) := by decide +kernel
theorem d_Mo_value_15 : decode c_Mo_value 15 = .ok (.invokestatic 110, 3) := by decide +kernel
theorem d_Mo_value_18 : decode c_Mo_value 18 = .ok (.ifCond .eq 43, 3) := by decide +kernel
theorem d_Mo_value_21 : decode c_Mo_value 21 = .ok (.aload_n 0, 1) := by decide +kernel
theorem d_Mo_value_22 : decode c_Mo_value 22 = .ok (.getfield 101, 3) := by decide +kernel
theorem d_Mo_value_25 : decode c_Mo_value 25 = .ok (.iload_n 1, 1) := by decide +kernel
theorem d_Mo_value_26 : decode c_Mo_value 26 = .ok (.isub, 1) := by decide +kernel
theorem d_Mo_value_27 : decode c_Mo_value 27 = .ok (.iconst 5, 1) := by decide +kernel
theorem d_Mo_value_28 : decode c_Mo_value 28 = .ok (.if_icmp .ge 33, 3) := by decide +kernel
theorem d_Mo_value_31 : decode c_Mo_value 31 = .ok (.bipush 10, 2) := by decide +kernel
theorem d_Mo_value_33 : decode c_Mo_value 33 = .ok (.iload_n 2, 1) := by decide +kernel
theorem d_Mo_value_34 : decode c_Mo_value 34 = .ok (.imul, 1) := by decide +kernel
theorem d_Mo_value_35 : decode c_Mo_value 35 = .ok (.aload_n 0, 1) := by decide +kernel
theorem d_Mo_value_36 : decode c_Mo_value 36 = .ok (.aload_n 0, 1) := by decide +kernel
theorem d_Mo_value_37 : decode c_Mo_value 37 = .ok (.getfield 101, 3) := by decide +kernel
theorem d_Mo_value_40 : decode c_Mo_value 40 = .ok (.invokevirtual 77, 3) := by decide +kernel
theorem d_Mo_value_43 : decode c_Mo_value 43 = .ok (.iadd, 1) := by decide +kernel
theorem d_Mo_value_44 : decode c_Mo_value 44 = .ok (.bipush 48, 2) := by decide +kernel
theorem d_Mo_value_46 : decode c_Mo_value 46 = .ok (.isub, 1) := by decide +kernel
theorem d_Mo_value_47 : decode c_Mo_value 47 = .ok (.istore_n 2, 1) := by decide +kernel
theorem d_Mo_value_48 : decode c_Mo_value 48 = .ok (.aload_n 0, 1) := by decide +kernel
theorem d_Mo_value_49 : decode c_Mo_value 49 = .ok (.dup, 1) := by decide +kernel
theorem d_Mo_value_50 : decode c_Mo_value 50 = .ok (.getfield 101, 3) := by decide +kernel
theorem d_Mo_value_53 : decode c_Mo_value 53 = .ok (.iconst 1, 1) := by decide +kernel
theorem d_Mo_value_54 : decode c_Mo_value 54 = .ok (.iadd, 1) := by decide +kernel
theorem d_Mo_value_55 : decode c_Mo_value 55 = .ok (.putfield 101, 3) := by decide +kernel
theorem d_Mo_value_58 : decode c_Mo_value 58 = .ok (.goto (-51), 3) := by decide +kernel
theorem d_Mo_value_61 : decode c_Mo_value 61 = .ok (.aload_n 0, 1) := by decide +kernel
theorem d_Mo_value_62 : decode c_Mo_value 62 = .ok (.getfield 101, 3) := by decide +kernel
theorem d_Mo_value_65 : decode c_Mo_value 65 = .ok (.iload_n 1, 1) := by decide +kernel
theorem d_Mo_value_66 : decode c_Mo_value 66 = .ok (.if_icmp .eq 17, 3) := by decide +kernel
theorem d_Mo_value_69 : decode c_Mo_value 69 = .ok (.aload_n 0, 1) := by decide +kernel
theorem d_Mo_value_70 : decode c_Mo_value 70 = .ok (.aload_n 0, 1) := by decide +kernel
theorem d_Mo_value_71 : decode c_Mo_value 71 = .ok (.getfield 101, 3) := by decide +kernel
theorem d_Mo_value_74 : decode c_Mo_value 74 = .ok (.invokevirtual 77, 3) := by decide +kernel
theorem d_Mo_value_77 : decode c_Mo_value 77 = .ok (.invokestatic 110, 3) := by decide +kernel
theorem d_Mo_value_80 : decode c_Mo_value 80 = .ok (.ifCond .eq 13, 3) := by decide +kernel
theorem d_Mo_value_83 : decode c_Mo_value 83 = .ok (.aload_n 0, 1) := by decide +kernel
theorem d_Mo_value_84 : decode c_Mo_value 84 = .ok (.aload_n 0, 1) := by decide +kernel
theorem d_Mo_value_85 : decode c_Mo_value 85 = .ok (.getfield 101, 3) := by decide +kernel
theorem d_Mo_value_88 : decode c_Mo_value 88 = .ok (.putfield 98, 3) := by decide +kernel
theorem d_Mo_value_91 : decode c_Mo_value 91 = .ok (.iconst (-1), 1) := by decide +kernel
theorem d_Mo_value_92 : decode c_Mo_value 92 = .ok (.ireturn, 1) := by decide +kernel
theorem d_Mo_value_93 : decode c_Mo_value 93 = .ok (.iload_n 2, 1) := by decide +kernel
theorem d_Mo_value_94 : decode c_Mo_value 94 = .ok (.ireturn, 1) := by decide +kernel
theorem d_Mo_name_0 : decode c_Mo_name 0 = .ok (.aload_n 0, 1) := by decide +kernel
theorem d_Mo_name_1 : decode c_Mo_name 1 = .ok (.aload_n 0, 1) := by decide +kernel
theorem d_Mo_name_2 : decode c_Mo_name 2 = .ok (.getfield 101, 3) := by decide +kernel
theorem d_Mo_name_5 : decode c_Mo_name 5 = .ok (.invokevirtual 88, 3) := by decide +kernel
theorem d_Mo_name_8 : decode c_Mo_name 8 = .ok (.istore_n 1, 1) := by decide +kernel
theorem d_Mo_name_9 : decode c_Mo_name 9 = .ok (.aload_n 0, 1) := by decide +kernel
theorem d_Mo_name_10 : decode c_Mo_name 10 = .ok (.aload_n 0, 1) := by decide +kernel
theorem d_Mo_name_11 : decode c_Mo_name 11 = .ok (.getfield 101, 3) := by decide +kernel
theorem d_Mo_name_14 : decode c_Mo_name 14 = .ok (.iload_n 1, 1) := by decide +kernel
theorem d_Mo_name_15 : decode c_Mo_name 15 = .ok (.invokevirtual 95, 3) := by decide +kernel
theorem d_Mo_name_18 : decode c_Mo_name 18 = .ok (.istore_n 2, 1) := by decide +kernel
theorem d_Mo_name_19 : decode c_Mo_name 19 = .ok (.iload_n 2, 1) := by decide +kernel
theorem d_Mo_name_20 : decode c_Mo_name 20 = .ok (.iconst (-1), 1) := by decide +kernel
theorem d_Mo_name_21 : decode c_Mo_name 21 = .ok (.if_icmp .ne 46, 3) := by decide +kernel
theorem d_Mo_name_24 : decode c_Mo_name 24 = .ok (.aload_n 0, 1) := by decide +kernel
theorem d_Mo_name_25 : decode c_Mo_name 25 = .ok (.aload_n 0, 1) := by decide +kernel
theorem d_Mo_name_26 : decode c_Mo_name 26 = .ok (.getfield 101, 3) := by decide +kernel
theorem d_Mo_name_29 : decode c_Mo_name 29 = .ok (.putfield 98, 3) := by decide +kernel
theorem d_Mo_name_32 : decode c_Mo_name 32 = .ok (.aload_n 0, 1) := by decide +kernel
theorem d_Mo_name_33 : decode c_Mo_name 33 = .ok (.iload_n 1, 1) := by decide +kernel
theorem d_Mo_name_34 : decode c_Mo_name 34 = .ok (.putfield 113, 3) := by decide +kernel
theorem d_Mo_name_37 : decode c_Mo_name 37 = .ok (.iconst 0, 1) := by decide +kernel
theorem d_Mo_name_38 : decode c_Mo_name 38 = .ok (.istore_n 3, 1) := by decide +kernel
theorem d_Mo_name_39 : decode c_Mo_name 39 = .ok (.iload_n 3, 1) := by decide +kernel
theorem d_Mo_name_40 : decode c_Mo_name 40 = .ok (.iload_n 1, 1) := by decide +kernel
theorem d_Mo_name_41 : decode c_Mo_name 41 = .ok (.if_icmp .ge 26, 3) := by decide +kernel
theorem d_Mo_name_44 : decode c_Mo_name 44 = .ok (.aload_n 0, 1) := by decide +kernel
theorem d_Mo_name_45 : decode c_Mo_name 45 = .ok (.getfield 24, 3) := by decide +kernel
theorem d_Mo_name_48 : decode c_Mo_name 48 = .ok (.iload_n 3, 1) := by decide +kernel
theorem d_Mo_name_49 : decode c_Mo_name 49 = .ok (.aload_n 0, 1) := by decide +kernel
theorem d_Mo_name_50 : decode c_Mo_name 50 = .ok (.getfield 7, 3) := by decide +kernel
theorem d_Mo_name_53 : decode c_Mo_name 53 = .ok (.aload_n 0, 1) := by decide +kernel
theorem d_Mo_name_54 : decode c_Mo_name 54 = .ok (.getfield 101, 3) := by decide +kernel
theorem d_Mo_name_57 : decode c_Mo_name 57 = .ok (.iload_n 3, 1) := by decide +kernel
theorem d_Mo_name_58 : decode c_Mo_name 58 = .ok (.iadd, 1) := by decide +kernel
theorem d_Mo_name_59 : decode c_Mo_name 59 = .ok (.baload, 1) := by decide +kernel
theorem d_Mo_name_60 : decode c_Mo_name 60 = .ok (.bastore, 1) := by decide +kernel
theorem d_Mo_name_61 : decode c_Mo_name 61 = .ok (.iinc 3 1, 3) := by decide +kernel
theorem d_Mo_name_64 : decode c_Mo_name 64 = .ok (.goto (-25), 3) := by decide +kernel
theorem d_Mo_name_67 : decode c_Mo_name 67 = .ok (.iload_n 2, 1) := by decide +kernel
theorem d_Mo_name_68 : decode c_Mo_name 68 = .ok (.ireturn, 1) := by decide +kernel
theorem d_Mo_add_0 : decode c_Mo_add 0 = .ok (.iconst 4, 1) := by decide +kernel
theorem d_Mo_add_1 : decode c_Mo_add 1 = .ok (.aload_n 0, 1) := by decide +kernel
theorem d_Mo_add_2 : decode c_Mo_add 2 = .ok (.getfield 116, 3) := by decide +kernel
theorem d_Mo_add_5 : decode c_Mo_add 5 = .ok (.imul, 1) := by decide +kernel
theorem d_Mo_add_6 : decode c_Mo_add 6 = .ok (.istore 5, 2) := by decide +kernel
theorem d_Mo_add_8 : decode c_Mo_add 8 = .ok (.aload_n 0, 1) := by decide +kernel
theorem d_Mo_add_9 : decode c_Mo_add 9 = .ok (.getfield 27, 3) := by decide +kernel
theorem d_Mo_add_12 : decode c_Mo_add 12 = .ok (.iload 5, 2) := by decide +kernel
theorem d_Mo_add_14 : decode c_Mo_add 14 = .ok (.iload_n 1, 1) := by decide +kernel
theorem d_Mo_add_15 : decode c_Mo_add 15 = .ok (.iastore, 1) := by decide +kernel
theorem d_Mo_add_16 : decode c_Mo_add 16 = .ok (.aload_n 0, 1) := by decide +kernel
theorem d_Mo_add_17 : decode c_Mo_add 17 = .ok (.getfield 27, 3) := by decide +kernel
theorem d_Mo_add_20 : decode c_Mo_add 20 = .ok (.iload 5, 2) := by decide +kernel
theorem d_Mo_add_22 : decode c_Mo_add 22 = .ok (.iconst 1, 1) := by decide +kernel
theorem d_Mo_add_23 : decode c_Mo_add 23 = .ok (.iadd, 1) := by decide +kernel
theorem d_Mo_add_24 : decode c_Mo_add 24 = .ok (.iload_n 2, 1) := by decide +kernel
theorem d_Mo_add_25 : decode c_Mo_add 25 = .ok (.iastore, 1) := by decide +kernel
theorem d_Mo_add_26 : decode c_Mo_add 26 = .ok (.aload_n 0, 1) := by decide +kernel
theorem d_Mo_add_27 : decode c_Mo_add 27 = .ok (.getfield 27, 3) := by decide +kernel
theorem d_Mo_add_30 : decode c_Mo_add 30 = .ok (.iload 5, 2) := by decide +kernel
theorem d_Mo_add_32 : decode c_Mo_add 32 = .ok (.iconst 2, 1) := by decide +kernel
theorem d_Mo_add_33 : decode c_Mo_add 33 = .ok (.iadd, 1) := by decide +kernel
theorem d_Mo_add_34 : decode c_Mo_add 34 = .ok (.iload_n 3, 1) := by decide +kernel
theorem d_Mo_add_35 : decode c_Mo_add 35 = .ok (.iastore, 1) := by decide +kernel
theorem d_Mo_add_36 : decode c_Mo_add 36 = .ok (.aload_n 0, 1) := by decide +kernel
theorem d_Mo_add_37 : decode c_Mo_add 37 = .ok (.getfield 27, 3) := by decide +kernel
theorem d_Mo_add_40 : decode c_Mo_add 40 = .ok (.iload 5, 2) := by decide +kernel
theorem d_Mo_add_42 : decode c_Mo_add 42 = .ok (.iconst 3, 1) := by decide +kernel
theorem d_Mo_add_43 : decode c_Mo_add 43 = .ok (.iadd, 1) := by decide +kernel
theorem d_Mo_add_44 : decode c_Mo_add 44 = .ok (.iload 4, 2) := by decide +kernel
theorem d_Mo_add_46 : decode c_Mo_add 46 = .ok (.iastore, 1) := by decide +kernel
theorem d_Mo_add_47 : decode c_Mo_add 47 = .ok (.aload_n 0, 1) := by decide +kernel
theorem d_Mo_add_48 : decode c_Mo_add 48 = .ok (.getfield 30, 3) := by decide +kernel
theorem d_Mo_add_51 : decode c_Mo_add 51 = .ok (.aload_n 0, 1) := by decide +kernel
theorem d_Mo_add_52 : decode c_Mo_add 52 = .ok (.getfield 116, 3) := by decide +kernel
theorem d_Mo_add_55 : decode c_Mo_add 55 = .ok (.aload_n 0, 1) := by decide +kernel
theorem d_Mo_add_56 : decode c_Mo_add 56 = .ok (.getfield 116, 3) := by decide +kernel
theorem d_Mo_add_59 : decode c_Mo_add 59 = .ok (.iastore, 1) := by decide +kernel
theorem d_Mo_add_60 : decode c_Mo_add 60 = .ok (.aload_n 0, 1) := by decide +kernel
theorem d_Mo_add_61 : decode c_Mo_add 61 = .ok (.dup, 1) := by decide +kernel
theorem d_Mo_add_62 : decode c_Mo_add 62 = .ok (.getfield 116, 3) := by decide +kernel
theorem d_Mo_add_65 : decode c_Mo_add 65 = .ok (.iconst 1, 1) := by decide +kernel
theorem d_Mo_add_66 : decode c_Mo_add 66 = .ok (.iadd, 1) := by decide +kernel
theorem d_Mo_add_67 : decode c_Mo_add 67 = .ok (.putfield 116, 3) := by decide +kernel
theorem d_Mo_add_70 : decode c_Mo_add 70 = .ok (.return_, 1) := by decide +kernel
theorem d_Mo_join_0 : decode c_Mo_join 0 = .ok (.aload_n 0, 1) := by decide +kernel
theorem d_Mo_join_1 : decode c_Mo_join 1 = .ok (.getfield 30, 3) := by decide +kernel
theorem d_Mo_join_4 : decode c_Mo_join 4 = .ok (.aload_n 0, 1) := by decide +kernel
theorem d_Mo_join_5 : decode c_Mo_join 5 = .ok (.getfield 116, 3) := by decide +kernel
theorem d_Mo_join_8 : decode c_Mo_join 8 = .ok (.iconst 1, 1) := by decide +kernel
theorem d_Mo_join_9 : decode c_Mo_join 9 = .ok (.isub, 1) := by decide +kernel
theorem d_Mo_join_10 : decode c_Mo_join 10 = .ok (.iaload, 1) := by decide +kernel
theorem d_Mo_join_11 : decode c_Mo_join 11 = .ok (.istore_n 2, 1) := by decide +kernel
theorem d_Mo_join_12 : decode c_Mo_join 12 = .ok (.aload_n 0, 1) := by decide +kernel
theorem d_Mo_join_13 : decode c_Mo_join 13 = .ok (.getfield 30, 3) := by decide +kernel
theorem d_Mo_join_16 : decode c_Mo_join 16 = .ok (.iload_n 2, 1) := by decide +kernel
theorem d_Mo_join_17 : decode c_Mo_join 17 = .ok (.iconst 1, 1) := by decide +kernel
theorem d_Mo_join_18 : decode c_Mo_join 18 = .ok (.isub, 1) := by decide +kernel
theorem d_Mo_join_19 : decode c_Mo_join 19 = .ok (.iaload, 1) := by decide +kernel
theorem d_Mo_join_20 : decode c_Mo_join 20 = .ok (.istore_n 3, 1) := by decide +kernel
theorem d_Mo_join_21 : decode c_Mo_join 21 = .ok (.aload_n 0, 1) := by decide +kernel
theorem d_Mo_join_22 : decode c_Mo_join 22 = .ok (.iload_n 1, 1) := by decide +kernel
theorem d_Mo_join_23 : decode c_Mo_join 23 = .ok (.iconst (-1), 1) := by decide +kernel
theorem d_Mo_join_24 : decode c_Mo_join 24 = .ok (.iconst (-1), 1) := by decide +kernel
theorem d_Mo_join_25 : decode c_Mo_join 25 = .ok (.iconst (-1), 1) := by decide +kernel
theorem d_Mo_join_26 : decode c_Mo_join 26 = .ok (.invokevirtual 119, 3) := by decide +kernel
theorem d_Mo_join_29 : decode c_Mo_join 29 = .ok (.aload_n 0, 1) := by decide +kernel
theorem d_Mo_join_30 : decode c_Mo_join 30 = .ok (.getfield 30, 3) := by decide +kernel
theorem d_Mo_join_33 : decode c_Mo_join 33 = .ok (.aload_n 0, 1) := by decide +kernel
theorem d_Mo_join_34 : decode c_Mo_join 34 = .ok (.getfield 116, 3) := by decide +kernel
theorem d_Mo_join_37 : decode c_Mo_join 37 = .ok (.iconst 1, 1) := by decide +kernel
theorem d_Mo_join_38 : decode c_Mo_join 38 = .ok (.isub, 1) := by decide +kernel
theorem d_Mo_join_39 : decode c_Mo_join 39 = .ok (.iload_n 3, 1) := by decide +kernel
theorem d_Mo_join_40 : decode c_Mo_join 40 = .ok (.iastore, 1) := by decide +kernel
theorem d_Mo_join_41 : decode c_Mo_join 41 = .ok (.return_, 1) := by decide +kernel
theorem d_Mo_range_0 : decode c_Mo_range 0 = .ok (.aload_n 0, 1) := by decide +kernel
theorem d_Mo_range_1 : decode c_Mo_range 1 = .ok (.getfield 101, 3) := by decide +kernel
theorem d_Mo_range_4 : decode c_Mo_range 4 = .ok (.istore_n 3, 1) := by decide +kernel
theorem d_Mo_range_5 : decode c_Mo_range 5 = .ok (.aload_n 0, 1) := by decide +kernel
theorem d_Mo_range_6 : decode c_Mo_range 6 = .ok (.invokevirtual 123, 3) := by decide +kernel
theorem d_Mo_range_9 : decode c_Mo_range 9 = .ok (.istore 4, 2) := by decide +kernel
theorem d_Mo_range_11 : decode c_Mo_range 11 = .ok (.iload 4, 2) := by decide +kernel
theorem d_Mo_range_13 : decode c_Mo_range 13 = .ok (.iconst (-1), 1) := by decide +kernel
theorem d_Mo_range_14 : decode c_Mo_range 14 = .ok (.if_icmp .ne 5, 3) := by decide +kernel
theorem d_Mo_range_17 : decode c_Mo_range 17 = .ok (.iconst 0, 1) := by decide +kernel
theorem d_Mo_range_18 : decode c_Mo_range 18 = .ok (.ireturn, 1) := by decide +kernel
theorem d_Mo_range_19 : decode c_Mo_range 19 = .ok (.iload 4, 2) := by decide +kernel
theorem d_Mo_range_21 : decode c_Mo_range 21 = .ok (.iload_n 2, 1) := by decide +kernel
theorem d_Mo_range_22 : decode c_Mo_range 22 = .ok (.if_icmp .ge 9, 3) := by decide +kernel
theorem d_Mo_range_25 : decode c_Mo_range 25 = .ok (.aload_n 0, 1) := by decide +kernel
theorem d_Mo_range_26 : decode c_Mo_range 26 = .ok (.iload_n 3, 1) := by decide +kernel
theorem d_Mo_range_27 : decode c_Mo_range 27 = .ok (.invokevirtual 104, 3) := by decide +kernel
theorem d_Mo_range_30 : decode c_Mo_range 30 = .ok (.ireturn, 1) := by decide +kernel
theorem d_Mo_range_31 : decode c_Mo_range 31 = .ok (.aload_n 0, 1) := by decide +kernel
theorem d_Mo_range_32 : decode c_Mo_range 32 = .ok (.iconst 1, 1) := by decide +kernel
theorem d_Mo_range_33 : decode c_Mo_range 33 = .ok (.iload_n 1, 1) := by decide +kernel
theorem d_Mo_range_34 : decode c_Mo_range 34 = .ok (.iload_n 2, 1) := by decide +kernel
theorem d_Mo_range_35 : decode c_Mo_range 35 = .ok (.iload 4, 2) := by decide +kernel
theorem d_Mo_range_37 : decode c_Mo_range 37 = .ok (.invokevirtual 119, 3) := by decide +kernel
theorem d_Mo_range_40 : decode c_Mo_range 40 = .ok (.iconst 1, 1) := by decide +kernel
theorem d_Mo_range_41 : decode c_Mo_range 41 = .ok (.ireturn, 1) := by decide +kernel
theorem d_Mo_leaf_0 : decode c_Mo_leaf 0 = .ok (.aload_n 0, 1) := by decide +kernel
theorem d_Mo_leaf_1 : decode c_Mo_leaf 1 = .ok (.getfield 101, 3) := by decide +kernel
theorem d_Mo_leaf_4 : decode c_Mo_leaf 4 = .ok (.istore_n 1, 1) := by decide +kernel
theorem d_Mo_leaf_5 : decode c_Mo_leaf 5 = .ok (.aload_n 0, 1) := by decide +kernel
theorem d_Mo_leaf_6 : decode c_Mo_leaf 6 = .ok (.aload_n 0, 1) := by decide +kernel
theorem d_Mo_leaf_7 : decode c_Mo_leaf 7 = .ok (.getfield 101, 3) := by decide +kernel
theorem d_Mo_leaf_10 : decode c_Mo_leaf 10 = .ok (.invokevirtual 77, 3) := by decide +kernel
theorem d_Mo_leaf_13 : decode c_Mo_leaf 13 = .ok (.invokestatic 81, 3) := by decide +kernel
theorem d_Mo_leaf_16 : decode c_Mo_leaf 16 = .ok (.ifCond .ne 12, 3) := by decide +kernel
theorem d_Mo_leaf_19 : decode c_Mo_leaf 19 = .ok (.aload_n 0, 1) := by decide +kernel
theorem d_Mo_leaf_20 : decode c_Mo_leaf 20 = .ok (.aload_n 0, 1) := by decide +kernel
theorem d_Mo_leaf_21 : decode c_Mo_leaf 21 = .ok (.getfield 101, 3) := by decide +kernel
theorem d_Mo_leaf_24 : decode c_Mo_leaf 24 = .ok (.invokevirtual 104, 3) := by decide +kernel
theorem d_Mo_leaf_27 : decode c_Mo_leaf 27 = .ok (.ireturn, 1) := by decide +kernel
theorem d_Mo_leaf_28 : decode c_Mo_leaf 28 = .ok (.aload_n 0, 1) := by decide +kernel
theorem d_Mo_leaf_29 : decode c_Mo_leaf 29 = .ok (.invokevirtual 127, 3) := by decide +kernel
theorem d_Mo_leaf_32 : decode c_Mo_leaf 32 = .ok (.istore_n 2, 1) := by decide +kernel
theorem d_Mo_leaf_33 : decode c_Mo_leaf 33 = .ok (.iload_n 2, 1) := by decide +kernel
theorem d_Mo_leaf_34 : decode c_Mo_leaf 34 = .ok (.iconst (-1), 1) := by decide +kernel
theorem d_Mo_leaf_35 : decode c_Mo_leaf 35 = .ok (.if_icmp .eq 20, 3) := by decide +kernel
theorem d_Mo_leaf_38 : decode c_Mo_leaf 38 = .ok (.aload_n 0, 1) := by decide +kernel
theorem d_Mo_leaf_39 : decode c_Mo_leaf 39 = .ok (.invokevirtual 130, 3) := by decide +kernel
theorem d_Mo_leaf_42 : decode c_Mo_leaf 42 = .ok (.bipush 40, 2) := by decide +kernel
theorem d_Mo_leaf_44 : decode c_Mo_leaf 44 = .ok (.if_icmp .ne 13, 3) := by decide +kernel
theorem d_Mo_leaf_47 : decode c_Mo_leaf 47 = .ok (.aload_n 0, 1) := by decide +kernel
theorem d_Mo_leaf_48 : decode c_Mo_leaf 48 = .ok (.iload_n 1, 1) := by decide +kernel
theorem d_Mo_leaf_49 : decode c_Mo_leaf 49 = .ok (.invokevirtual 104, 3) := by decide +kernel
theorem d_Mo_leaf_52 : decode c_Mo_leaf 52 = .ok (.ifCond .ne 5, 3) := by decide +kernel
theorem d_Mo_leaf_55 : decode c_Mo_leaf 55 = .ok (.iconst 0, 1) := by decide +kernel
theorem d_Mo_leaf_56 : decode c_Mo_leaf 56 = .ok (.ireturn, 1) := by decide +kernel
theorem d_Mo_leaf_57 : decode c_Mo_leaf 57 = .ok (.aload_n 0, 1) := by decide +kernel
theorem d_Mo_leaf_58 : decode c_Mo_leaf 58 = .ok (.dup, 1) := by decide +kernel
theorem d_Mo_leaf_59 : decode c_Mo_leaf 59 = .ok (.getfield 101, 3) := by decide +kernel
theorem d_Mo_leaf_62 : decode c_Mo_leaf 62 = .ok (.aload_n 0, 1) := by decide +kernel
theorem d_Mo_leaf_63 : decode c_Mo_leaf 63 = .ok (.aload_n 0, 1) := by decide +kernel
theorem d_Mo_leaf_64 : decode c_Mo_leaf 64 = .ok (.getfield 101, 3) := by decide +kernel
theorem d_Mo_leaf_67 : decode c_Mo_leaf 67 = .ok (.invokevirtual 88, 3) := by decide +kernel
theorem d_Mo_leaf_70 : decode c_Mo_leaf 70 = .ok (.iadd, 1) := by decide +kernel
theorem d_Mo_leaf_71 : decode c_Mo_leaf 71 = .ok (.putfield 101, 3) := by decide +kernel
theorem d_Mo_leaf_74 : decode c_Mo_leaf 74 = .ok (.aload_n 0, 1) := by decide +kernel
theorem d_Mo_leaf_75 : decode c_Mo_leaf 75 = .ok (.bipush 61, 2) := by decide +kernel
theorem d_Mo_leaf_77 : decode c_Mo_leaf 77 = .ok (.invokevirtual 107, 3) := by decide +kernel
theorem d_Mo_leaf_80 : decode c_Mo_leaf 80 = .ok (.ifCond .ne 5, 3) := by decide +kernel
theorem d_Mo_leaf_83 : decode c_Mo_leaf 83 = .ok (.iconst 0, 1) := by decide +kernel
theorem d_Mo_leaf_84 : decode c_Mo_leaf 84 = .ok (.ireturn, 1) := by decide +kernel
theorem d_Mo_leaf_85 : decode c_Mo_leaf 85 = .ok (.aload_n 0, 1) := by decide +kernel
theorem d_Mo_leaf_86 : decode c_Mo_leaf 86 = .ok (.invokevirtual 123, 3) := by decide +kernel
theorem d_Mo_leaf_89 : decode c_Mo_leaf 89 = .ok (.istore_n 3, 1) := by decide +kernel
theorem d_Mo_leaf_90 : decode c_Mo_leaf 90 = .ok (.iload_n 3, 1) := by decide +kernel
theorem d_Mo_leaf_91 : decode c_Mo_leaf 91 = .ok (.iconst (-1), 1) := by decide +kernel
theorem d_Mo_leaf_92 : decode c_Mo_leaf 92 = .ok (.if_icmp .ne 5, 3) := by decide +kernel
theorem d_Mo_leaf_95 : decode c_Mo_leaf 95 = .ok (.iconst 0, 1) := by decide +kernel
theorem d_Mo_leaf_96 : decode c_Mo_leaf 96 = .ok (.ireturn, 1) := by decide +kernel
theorem d_Mo_leaf_97 : decode c_Mo_leaf 97 = .ok (.aload_n 0, 1) := by decide +kernel
theorem d_Mo_leaf_98 : decode c_Mo_leaf 98 = .ok (.aload_n 0, 1) := by decide +kernel
theorem d_Mo_leaf_99 : decode c_Mo_leaf 99 = .ok (.getfield 101, 3) := by decide +kernel
theorem d_Mo_leaf_102 : decode c_Mo_leaf 102 = .ok (.invokevirtual 77, 3) := by decide +kernel
theorem d_Mo_leaf_105 : decode c_Mo_leaf 105 = .ok (.bipush 46, 2) := by decide +kernel
theorem d_Mo_leaf_107 : decode c_Mo_leaf 107 = .ok (.if_icmp .ne 37, 3) := by decide +kernel
theorem d_Mo_leaf_110 : decode c_Mo_leaf 110 = .ok (.aload_n 0, 1) := by decide +kernel
theorem d_Mo_leaf_111 : decode c_Mo_leaf 111 = .ok (.dup, 1) := by decide +kernel
theorem d_Mo_leaf_112 : decode c_Mo_leaf 112 = .ok (.getfield 101, 3) := by decide +kernel
theorem d_Mo_leaf_115 : decode c_Mo_leaf 115 = .ok (.iconst 1, 1) := by decide +kernel
theorem d_Mo_leaf_116 : decode c_Mo_leaf 116 = .ok (.iadd, 1) := by decide +kernel
theorem d_Mo_leaf_117 : decode c_Mo_leaf 117 = .ok (.putfield 101, 3) := by decide +kernel
theorem d_Mo_leaf_120 : decode c_Mo_leaf 120 = .ok (.aload_n 0, 1) := by decide +kernel
theorem d_Mo_leaf_121 : decode c_Mo_leaf 121 = .ok (.bipush 46, 2) := by decide +kernel
theorem d_Mo_leaf_123 : decode c_Mo_leaf 123 = .ok (.invokevirtual 107, 3) := by decide +kernel
theorem d_Mo_leaf_126 : decode c_Mo_leaf 126 = .ok (.ifCond .eq 16, 3) := by decide +kernel
theorem d_Mo_leaf_129 : decode c_Mo_leaf 129 = .ok (.aload_n 0, 1) := by decide +kernel
theorem d_Mo_leaf_130 : decode c_Mo_leaf 130 = .ok (.iload_n 2, 1) := by decide +kernel
theorem d_Mo_leaf_131 : decode c_Mo_leaf 131 = .ok (.iload_n 3, 1) := by decide +kernel
theorem d_Mo_leaf_132 : decode c_Mo_leaf 132 = .ok (.invokevirtual 133, 3) := by decide +kernel
theorem d_Mo_leaf_135 : decode c_Mo_leaf 135 = .ok (.ifCond .eq 7, 3) := by decide +kernel
theorem d_Mo_leaf_138 : decode c_Mo_leaf 138 = .ok (.iconst 1, 1) := by decide +kernel
theorem d_Mo_leaf_139 : decode c_Mo_leaf 139 = .ok (.goto 4, 3) := by decide +kernel
theorem d_Mo_leaf_142 : decode c_Mo_leaf 142 = .ok (.iconst 0, 1) := by decide +kernel
theorem d_Mo_leaf_143 : decode c_Mo_leaf 143 = .ok (.ireturn, 1) := by decide +kernel
theorem d_Mo_leaf_144 : decode c_Mo_leaf 144 = .ok (.aload_n 0, 1) := by decide +kernel
theorem d_Mo_leaf_145 : decode c_Mo_leaf 145 = .ok (.aload_n 0, 1) := by decide +kernel
theorem d_Mo_leaf_146 : decode c_Mo_leaf 146 = .ok (.getfield 101, 3) := by decide +kernel
theorem d_Mo_leaf_149 : decode c_Mo_leaf 149 = .ok (.invokevirtual 77, 3) := by decide +kernel
theorem d_Mo_leaf_152 : decode c_Mo_leaf 152 = .ok (.bipush 42, 2) := by decide +kernel
theorem d_Mo_leaf_154 : decode c_Mo_leaf 154 = .ok (.if_icmp .ne 24, 3) := by decide +kernel
theorem d_Mo_leaf_157 : decode c_Mo_leaf 157 = .ok (.aload_n 0, 1) := by decide +kernel
theorem d_Mo_leaf_158 : decode c_Mo_leaf 158 = .ok (.dup, 1) := by decide +kernel
theorem d_Mo_leaf_159 : decode c_Mo_leaf 159 = .ok (.getfield 101, 3) := by decide +kernel
theorem d_Mo_leaf_162 : decode c_Mo_leaf 162 = .ok (.iconst 1, 1) := by decide +kernel
theorem d_Mo_leaf_163 : decode c_Mo_leaf 163 = .ok (.iadd, 1) := by decide +kernel
theorem d_Mo_leaf_164 : decode c_Mo_leaf 164 = .ok (.putfield 101, 3) := by decide +kernel
theorem d_Mo_leaf_167 : decode c_Mo_leaf 167 = .ok (.aload_n 0, 1) := by decide +kernel
theorem d_Mo_leaf_168 : decode c_Mo_leaf 168 = .ok (.iconst 2, 1) := by decide +kernel
theorem d_Mo_leaf_169 : decode c_Mo_leaf 169 = .ok (.iload_n 2, 1) := by decide +kernel
theorem d_Mo_leaf_170 : decode c_Mo_leaf 170 = .ok (.iload_n 3, 1) := by decide +kernel
theorem d_Mo_leaf_171 : decode c_Mo_leaf 171 = .ok (.iconst (-1), 1) := by decide +kernel
theorem d_Mo_leaf_172 : decode c_Mo_leaf 172 = .ok (.invokevirtual 119, 3) := by decide +kernel
theorem d_Mo_leaf_175 : decode c_Mo_leaf 175 = .ok (.goto 11, 3) := by decide +kernel
theorem d_Mo_leaf_178 : decode c_Mo_leaf 178 = .ok (.aload_n 0, 1) := by decide +kernel
theorem d_Mo_leaf_179 : decode c_Mo_leaf 179 = .ok (.iconst 0, 1) := by decide +kernel
theorem d_Mo_leaf_180 : decode c_Mo_leaf 180 = .ok (.iload_n 2, 1) := by decide +kernel
theorem d_Mo_leaf_181 : decode c_Mo_leaf 181 = .ok (.iload_n 3, 1) := by decide +kernel
theorem d_Mo_leaf_182 : decode c_Mo_leaf 182 = .ok (.iconst (-1), 1) := by decide +kernel
theorem d_Mo_leaf_183 : decode c_Mo_leaf 183 = .ok (.invokevirtual 119, 3) := by decide +kernel
theorem d_Mo_leaf_186 : decode c_Mo_leaf 186 = .ok (.iconst 1, 1) := by decide +kernel
theorem d_Mo_leaf_187 : decode c_Mo_leaf 187 = .ok (.ireturn, 1) := by decide +kernel
theorem d_Mo_count_0 : decode c_Mo_count 0 = .ok (.aload_n 0, 1) := by decide +kernel
theorem d_Mo_count_1 : decode c_Mo_count 1 = .ok (.getfield 116, 3) := by decide +kernel
theorem d_Mo_count_4 : decode c_Mo_count 4 = .ok (.istore_n 1, 1) := by decide +kernel
theorem d_Mo_count_5 : decode c_Mo_count 5 = .ok (.iconst 0, 1) := by decide +kernel
theorem d_Mo_count_6 : decode c_Mo_count 6 = .ok (.istore_n 2, 1) := by decide +kernel
theorem d_Mo_count_7 : decode c_Mo_count 7 = .ok (.iload_n 2, 1) := by decide +kernel
theorem d_Mo_count_8 : decode c_Mo_count 8 = .ok (.aload_n 0, 1) := by decide +kernel
theorem d_Mo_count_9 : decode c_Mo_count 9 = .ok (.getfield 137, 3) := by decide +kernel
theorem d_Mo_count_12 : decode c_Mo_count 12 = .ok (.if_icmp .ge 28, 3) := by decide +kernel
theorem d_Mo_count_15 : decode c_Mo_count 15 = .ok (.iload_n 1, 1) := by decide +kernel
theorem d_Mo_count_16 : decode c_Mo_count 16 = .ok (.aload_n 0, 1) := by decide +kernel
theorem d_Mo_count_17 : decode c_Mo_count 17 = .ok (.getfield 33, 3) := by decide +kernel
theorem d_Mo_count_20 : decode c_Mo_count 20 = .ok (.iload_n 2, 1) := by decide +kernel
theorem d_Mo_count_21 : decode c_Mo_count 21 = .ok (.iaload, 1) := by decide +kernel
theorem d_Mo_count_22 : decode c_Mo_count 22 = .ok (.bipush 6, 2) := by decide +kernel
theorem d_Mo_count_24 : decode c_Mo_count 24 = .ok (.if_icmp .ge 7, 3) := by decide +kernel
theorem d_Mo_count_27 : decode c_Mo_count 27 = .ok (.iconst 1, 1) := by decide +kernel
theorem d_Mo_count_28 : decode c_Mo_count 28 = .ok (.goto 4, 3) := by decide +kernel
theorem d_Mo_count_31 : decode c_Mo_count 31 = .ok (.iconst 0, 1) := by decide +kernel
theorem d_Mo_count_32 : decode c_Mo_count 32 = .ok (.iadd, 1) := by decide +kernel
theorem d_Mo_count_33 : decode c_Mo_count 33 = .ok (.istore_n 1, 1) := by decide +kernel
theorem d_Mo_count_34 : decode c_Mo_count 34 = .ok (.iinc 2 1, 3) := by decide +kernel
theorem d_Mo_count_37 : decode c_Mo_count 37 = .ok (.goto (-30), 3) := by decide +kernel
theorem d_Mo_count_40 : decode c_Mo_count 40 = .ok (.iload_n 1, 1) := by decide +kernel
theorem d_Mo_count_41 : decode c_Mo_count 41 = .ok (.ireturn, 1) := by decide +kernel
theorem d_Mo_depth_0 : decode c_Mo_depth 0 = .ok (.iconst 0, 1) := by decide +kernel
theorem d_Mo_depth_1 : decode c_Mo_depth 1 = .ok (.istore_n 1, 1) := by decide +kernel
theorem d_Mo_depth_2 : decode c_Mo_depth 2 = .ok (.iconst 0, 1) := by decide +kernel
theorem d_Mo_depth_3 : decode c_Mo_depth 3 = .ok (.istore_n 2, 1) := by decide +kernel
theorem d_Mo_depth_4 : decode c_Mo_depth 4 = .ok (.iload_n 2, 1) := by decide +kernel
theorem d_Mo_depth_5 : decode c_Mo_depth 5 = .ok (.aload_n 0, 1) := by decide +kernel
theorem d_Mo_depth_6 : decode c_Mo_depth 6 = .ok (.getfield 137, 3) := by decide +kernel
theorem d_Mo_depth_9 : decode c_Mo_depth 9 = .ok (.if_icmp .ge 28, 3) := by decide +kernel
theorem d_Mo_depth_12 : decode c_Mo_depth 12 = .ok (.iload_n 1, 1) := by decide +kernel
theorem d_Mo_depth_13 : decode c_Mo_depth 13 = .ok (.aload_n 0, 1) := by decide +kernel
theorem d_Mo_depth_14 : decode c_Mo_depth 14 = .ok (.getfield 33, 3) := by decide +kernel
theorem d_Mo_depth_17 : decode c_Mo_depth 17 = .ok (.iload_n 2, 1) := by decide +kernel
theorem d_Mo_depth_18 : decode c_Mo_depth 18 = .ok (.iaload, 1) := by decide +kernel
theorem d_Mo_depth_19 : decode c_Mo_depth 19 = .ok (.bipush 6, 2) := by decide +kernel
theorem d_Mo_depth_21 : decode c_Mo_depth 21 = .ok (.if_icmp .ne 7, 3) := by decide +kernel
theorem d_Mo_depth_24 : decode c_Mo_depth 24 = .ok (.iconst 1, 1) := by decide +kernel
theorem d_Mo_depth_25 : decode c_Mo_depth 25 = .ok (.goto 4, 3) := by decide +kernel
theorem d_Mo_depth_28 : decode c_Mo_depth 28 = .ok (.iconst 0, 1) := by decide +kernel
theorem d_Mo_depth_29 : decode c_Mo_depth 29 = .ok (.iadd, 1) := by decide +kernel
theorem d_Mo_depth_30 : decode c_Mo_depth 30 = .ok (.istore_n 1, 1) := by decide +kernel
theorem d_Mo_depth_31 : decode c_Mo_depth 31 = .ok (.iinc 2 1, 3) := by decide +kernel
theorem d_Mo_depth_34 : decode c_Mo_depth 34 = .ok (.goto (-30), 3) := by decide +kernel
theorem d_Mo_depth_37 : decode c_Mo_depth 37 = .ok (.iload_n 1, 1) := by decide +kernel
theorem d_Mo_depth_38 : decode c_Mo_depth 38 = .ok (.ireturn, 1) := by decide +kernel
theorem d_Mo_settle_0 : decode c_Mo_settle 0 = .ok (.aload_n 0, 1) := by decide +kernel
theorem d_Mo_settle_1 : decode c_Mo_settle 1 = .ok (.getfield 137, 3) := by decide +kernel
theorem d_Mo_settle_4 : decode c_Mo_settle 4 = .ok (.ifCond .le 64, 3) := by decide +kernel
theorem d_Mo_settle_7 : decode c_Mo_settle 7 = .ok (.aload_n 0, 1) := by decide +kernel
theorem d_Mo_settle_8 : decode c_Mo_settle 8 = .ok (.getfield 33, 3) := by decide +kernel
theorem d_Mo_settle_11 : decode c_Mo_settle 11 = .ok (.aload_n 0, 1) := by decide +kernel
theorem d_Mo_settle_12 : decode c_Mo_settle 12 = .ok (.getfield 137, 3) := by decide +kernel
theorem d_Mo_settle_15 : decode c_Mo_settle 15 = .ok (.iconst 1, 1) := by decide +kernel
theorem d_Mo_settle_16 : decode c_Mo_settle 16 = .ok (.isub, 1) := by decide +kernel
theorem d_Mo_settle_17 : decode c_Mo_settle 17 = .ok (.iaload, 1) := by decide +kernel
theorem d_Mo_settle_18 : decode c_Mo_settle 18 = .ok (.bipush 6, 2) := by decide +kernel
theorem d_Mo_settle_20 : decode c_Mo_settle 20 = .ok (.if_icmp .ge 48, 3) := by decide +kernel
theorem d_Mo_settle_23 : decode c_Mo_settle 23 = .ok (.aload_n 0, 1) := by decide +kernel
theorem d_Mo_settle_24 : decode c_Mo_settle 24 = .ok (.getfield 33, 3) := by decide +kernel
theorem d_Mo_settle_27 : decode c_Mo_settle 27 = .ok (.aload_n 0, 1) := by decide +kernel
theorem d_Mo_settle_28 : decode c_Mo_settle 28 = .ok (.getfield 137, 3) := by decide +kernel
theorem d_Mo_settle_31 : decode c_Mo_settle 31 = .ok (.iconst 1, 1) := by decide +kernel
theorem d_Mo_settle_32 : decode c_Mo_settle 32 = .ok (.isub, 1) := by decide +kernel
theorem d_Mo_settle_33 : decode c_Mo_settle 33 = .ok (.iaload, 1) := by decide +kernel
theorem d_Mo_settle_34 : decode c_Mo_settle 34 = .ok (.iconst 3, 1) := by decide +kernel
theorem d_Mo_settle_35 : decode c_Mo_settle 35 = .ok (.if_icmp .eq 7, 3) := by decide +kernel
theorem d_Mo_settle_38 : decode c_Mo_settle 38 = .ok (.iload_n 1, 1) := by decide +kernel
theorem d_Mo_settle_39 : decode c_Mo_settle 39 = .ok (.ifCond .ne 29, 3) := by decide +kernel
theorem d_Mo_settle_42 : decode c_Mo_settle 42 = .ok (.aload_n 0, 1) := by decide +kernel
theorem d_Mo_settle_43 : decode c_Mo_settle 43 = .ok (.dup, 1) := by decide +kernel
theorem d_Mo_settle_44 : decode c_Mo_settle 44 = .ok (.getfield 137, 3) := by decide +kernel
theorem d_Mo_settle_47 : decode c_Mo_settle 47 = .ok (.iconst 1, 1) := by decide +kernel
theorem d_Mo_settle_48 : decode c_Mo_settle 48 = .ok (.isub, 1) := by decide +kernel
theorem d_Mo_settle_49 : decode c_Mo_settle 49 = .ok (.putfield 137, 3) := by decide +kernel
theorem d_Mo_settle_52 : decode c_Mo_settle 52 = .ok (.aload_n 0, 1) := by decide +kernel
theorem d_Mo_settle_53 : decode c_Mo_settle 53 = .ok (.aload_n 0, 1) := by decide +kernel
theorem d_Mo_settle_54 : decode c_Mo_settle 54 = .ok (.getfield 33, 3) := by decide +kernel
theorem d_Mo_settle_57 : decode c_Mo_settle 57 = .ok (.aload_n 0, 1) := by decide +kernel
theorem d_Mo_settle_58 : decode c_Mo_settle 58 = .ok (.getfield 137, 3) := by decide +kernel
theorem d_Mo_settle_61 : decode c_Mo_settle 61 = .ok (.iaload, 1) := by decide +kernel
theorem d_Mo_settle_62 : decode c_Mo_settle 62 = .ok (.invokevirtual 140, 3) := by decide +kernel
theorem d_Mo_settle_65 : decode c_Mo_settle 65 = .ok (.goto (-65), 3) := by decide +kernel
theorem d_Mo_settle_68 : decode c_Mo_settle 68 = .ok (.return_, 1) := by decide +kernel
theorem d_Mo_first_0 : decode c_Mo_first 0 = .ok (.iconst 1, 1) := by decide +kernel
theorem d_Mo_first_1 : decode c_Mo_first 1 = .ok (.istore_n 1, 1) := by decide +kernel
theorem d_Mo_first_2 : decode c_Mo_first 2 = .ok (.iload_n 1, 1) := by decide +kernel
theorem d_Mo_first_3 : decode c_Mo_first 3 = .ok (.ifCond .eq 82, 3) := by decide +kernel
theorem d_Mo_first_6 : decode c_Mo_first 6 = .ok (.aload_n 0, 1) := by decide +kernel
theorem d_Mo_first_7 : decode c_Mo_first 7 = .ok (.aload_n 0, 1) := by decide +kernel
theorem d_Mo_first_8 : decode c_Mo_first 8 = .ok (.getfield 101, 3) := by decide +kernel
theorem d_Mo_first_11 : decode c_Mo_first 11 = .ok (.invokevirtual 77, 3) := by decide +kernel
theorem d_Mo_first_14 : decode c_Mo_first 14 = .ok (.bipush 40, 2) := by decide +kernel
theorem d_Mo_first_16 : decode c_Mo_first 16 = .ok (.if_icmp .ne 55, 3) := by decide +kernel
theorem d_Mo_first_19 : decode c_Mo_first 19 = .ok (.aload_n 0, 1) := by decide +kernel
theorem d_Mo_first_20 : decode c_Mo_first 20 = .ok (.invokevirtual 144, 3) := by decide +kernel
theorem d_Mo_first_23 : decode c_Mo_first 23 = .ok (.bipush 20, 2) := by decide +kernel
theorem d_Mo_first_25 : decode c_Mo_first 25 = .ok (.if_icmp .ne 12, 3) := by decide +kernel
theorem d_Mo_first_28 : decode c_Mo_first 28 = .ok (.aload_n 0, 1) := by decide +kernel
theorem d_Mo_first_29 : decode c_Mo_first 29 = .ok (.aload_n 0, 1) := by decide +kernel
theorem d_Mo_first_30 : decode c_Mo_first 30 = .ok (.getfield 101, 3) := by decide +kernel
theorem d_Mo_first_33 : decode c_Mo_first 33 = .ok (.invokevirtual 104, 3) := by decide +kernel
theorem d_Mo_first_36 : decode c_Mo_first 36 = .ok (.ireturn, 1) := by decide +kernel
theorem d_Mo_first_37 : decode c_Mo_first 37 = .ok (.aload_n 0, 1) := by decide +kernel
theorem d_Mo_first_38 : decode c_Mo_first 38 = .ok (.getfield 33, 3) := by decide +kernel
theorem d_Mo_first_41 : decode c_Mo_first 41 = .ok (.aload_n 0, 1) := by decide +kernel
theorem d_Mo_first_42 : decode c_Mo_first 42 = .ok (.getfield 137, 3) := by decide +kernel
theorem d_Mo_first_45 : decode c_Mo_first 45 = .ok (.bipush 6, 2) := by decide +kernel
theorem d_Mo_first_47 : decode c_Mo_first 47 = .ok (.iastore, 1) := by decide +kernel
theorem d_Mo_first_48 : decode c_Mo_first 48 = .ok (.aload_n 0, 1) := by decide +kernel
theorem d_Mo_first_49 : decode c_Mo_first 49 = .ok (.dup, 1) := by decide +kernel
theorem d_Mo_first_50 : decode c_Mo_first 50 = .ok (.getfield 137, 3) := by decide +kernel
theorem d_Mo_first_53 : decode c_Mo_first 53 = .ok (.iconst 1, 1) := by decide +kernel
theorem d_Mo_first_54 : decode c_Mo_first 54 = .ok (.iadd, 1) := by decide +kernel
theorem d_Mo_first_55 : decode c_Mo_first 55 = .ok (.putfield 137, 3) := by decide +kernel
theorem d_Mo_first_58 : decode c_Mo_first 58 = .ok (.aload_n 0, 1) := by decide +kernel
theorem d_Mo_first_59 : decode c_Mo_first 59 = .ok (.dup, 1) := by decide +kernel
theorem d_Mo_first_60 : decode c_Mo_first 60 = .ok (.getfield 101, 3) := by decide +kernel
theorem d_Mo_first_63 : decode c_Mo_first 63 = .ok (.iconst 1, 1) := by decide +kernel
theorem d_Mo_first_64 : decode c_Mo_first 64 = .ok (.iadd, 1) := by decide +kernel
theorem d_Mo_first_65 : decode c_Mo_first 65 = .ok (.putfield 101, 3) := by decide +kernel
theorem d_Mo_first_68 : decode c_Mo_first 68 = .ok (.goto (-66), 3) := by decide +kernel
theorem d_Mo_first_71 : decode c_Mo_first 71 = .ok (.aload_n 0, 1) := by decide +kernel
theorem d_Mo_first_72 : decode c_Mo_first 72 = .ok (.invokevirtual 147, 3) := by decide +kernel
theorem d_Mo_first_75 : decode c_Mo_first 75 = .ok (.ifCond .ne 5, 3) := by decide +kernel
theorem d_Mo_first_78 : decode c_Mo_first 78 = .ok (.iconst 0, 1) := by decide +kernel
theorem d_Mo_first_79 : decode c_Mo_first 79 = .ok (.ireturn, 1) := by decide +kernel
theorem d_Mo_first_80 : decode c_Mo_first 80 = .ok (.iconst 0, 1) := by decide +kernel
theorem d_Mo_first_81 : decode c_Mo_first 81 = .ok (.istore_n 1, 1) := by decide +kernel
theorem d_Mo_first_82 : decode c_Mo_first 82 = .ok (.goto (-80), 3) := by decide +kernel
theorem d_Mo_first_85 : decode c_Mo_first 85 = .ok (.aload_n 0, 1) := by decide +kernel
theorem d_Mo_first_86 : decode c_Mo_first 86 = .ok (.getfield 101, 3) := by decide +kernel
theorem d_Mo_first_89 : decode c_Mo_first 89 = .ok (.aload_n 0, 1) := by decide +kernel
theorem d_Mo_first_90 : decode c_Mo_first 90 = .ok (.getfield 74, 3) := by decide +kernel
theorem d_Mo_first_93 : decode c_Mo_first 93 = .ok (.if_icmp .ne 17, 3) := by decide +kernel
theorem d_Mo_first_96 : decode c_Mo_first 96 = .ok (.aload_n 0, 1) := by decide +kernel
theorem d_Mo_first_97 : decode c_Mo_first 97 = .ok (.invokevirtual 144, 3) := by decide +kernel
theorem d_Mo_first_100 : decode c_Mo_first 100 = .ok (.ifCond .ne 10, 3) := by decide +kernel
theorem d_Mo_first_103 : decode c_Mo_first 103 = .ok (.aload_n 0, 1) := by decide +kernel
theorem d_Mo_first_104 : decode c_Mo_first 104 = .ok (.iconst 0, 1) := by decide +kernel
theorem d_Mo_first_105 : decode c_Mo_first 105 = .ok (.invokevirtual 151, 3) := by decide +kernel
theorem d_Mo_first_108 : decode c_Mo_first 108 = .ok (.iconst 1, 1) := by decide +kernel
theorem d_Mo_first_109 : decode c_Mo_first 109 = .ok (.ireturn, 1) := by decide +kernel
theorem d_Mo_first_110 : decode c_Mo_first 110 = .ok (.aload_n 0, 1) := by decide +kernel
theorem d_Mo_first_111 : decode c_Mo_first 111 = .ok (.aload_n 0, 1) := by decide +kernel
theorem d_Mo_first_112 : decode c_Mo_first 112 = .ok (.getfield 101, 3) := by decide +kernel
theorem d_Mo_first_115 : decode c_Mo_first 115 = .ok (.invokevirtual 77, 3) := by decide +kernel
theorem d_Mo_first_118 : decode c_Mo_first 118 = .ok (.bipush 41, 2) := by decide +kernel
theorem d_Mo_first_120 : decode c_Mo_first 120 = .ok (.if_icmp .ne 38, 3) := by decide +kernel
theorem d_Mo_first_123 : decode c_Mo_first 123 = .ok (.aload_n 0, 1) := by decide +kernel
theorem d_Mo_first_124 : decode c_Mo_first 124 = .ok (.invokevirtual 144, 3) := by decide +kernel
theorem d_Mo_first_127 : decode c_Mo_first 127 = .ok (.ifCond .le 31, 3) := by decide +kernel
theorem d_Mo_first_130 : decode c_Mo_first 130 = .ok (.aload_n 0, 1) := by decide +kernel
theorem d_Mo_first_131 : decode c_Mo_first 131 = .ok (.iconst 0, 1) := by decide +kernel
theorem d_Mo_first_132 : decode c_Mo_first 132 = .ok (.invokevirtual 151, 3) := by decide +kernel
theorem d_Mo_first_135 : decode c_Mo_first 135 = .ok (.aload_n 0, 1) := by decide +kernel
theorem d_Mo_first_136 : decode c_Mo_first 136 = .ok (.dup, 1) := by decide +kernel
theorem d_Mo_first_137 : decode c_Mo_first 137 = .ok (.getfield 137, 3) := by decide +kernel
theorem d_Mo_first_140 : decode c_Mo_first 140 = .ok (.iconst 1, 1) := by decide +kernel
theorem d_Mo_first_141 : decode c_Mo_first 141 = .ok (.isub, 1) := by decide +kernel
theorem d_Mo_first_142 : decode c_Mo_first 142 = .ok (.putfield 137, 3) := by decide +kernel
theorem d_Mo_first_145 : decode c_Mo_first 145 = .ok (.aload_n 0, 1) := by decide +kernel
theorem d_Mo_first_146 : decode c_Mo_first 146 = .ok (.dup, 1) := by decide +kernel
theorem d_Mo_first_147 : decode c_Mo_first 147 = .ok (.getfield 101, 3) := by decide +kernel
theorem d_Mo_first_150 : decode c_Mo_first 150 = .ok (.iconst 1, 1) := by decide +kernel
theorem d_Mo_first_151 : decode c_Mo_first 151 = .ok (.iadd, 1) := by decide +kernel
theorem d_Mo_first_152 : decode c_Mo_first 152 = .ok (.putfield 101, 3) := by decide +kernel
theorem d_Mo_first_155 : decode c_Mo_first 155 = .ok (.goto (-153), 3) := by decide +kernel
theorem d_Mo_first_158 : decode c_Mo_first 158 = .ok (.aload_n 0, 1) := by decide +kernel
theorem d_Mo_first_159 : decode c_Mo_first 159 = .ok (.bipush 32, 2) := by decide +kernel
theorem d_Mo_first_161 : decode c_Mo_first 161 = .ok (.invokevirtual 107, 3) := by decide +kernel
theorem d_Mo_first_164 : decode c_Mo_first 164 = .ok (.ifCond .ne 5, 3) := by decide +kernel
theorem d_Mo_first_167 : decode c_Mo_first 167 = .ok (.iconst 0, 1) := by decide +kernel
theorem d_Mo_first_168 : decode c_Mo_first 168 = .ok (.ireturn, 1) := by decide +kernel
theorem d_Mo_first_169 : decode c_Mo_first 169 = .ok (.aload_n 0, 1) := by decide +kernel
theorem d_Mo_first_170 : decode c_Mo_first 170 = .ok (.aload_n 0, 1) := by decide +kernel
theorem d_Mo_first_171 : decode c_Mo_first 171 = .ok (.getfield 101, 3) := by decide +kernel
theorem d_Mo_first_174 : decode c_Mo_first 174 = .ok (.aload_n 0, 1) := by decide +kernel
theorem d_Mo_first_175 : decode c_Mo_first 175 = .ok (.aload_n 0, 1) := by decide +kernel
theorem d_Mo_first_176 : decode c_Mo_first 176 = .ok (.getfield 101, 3) := by decide +kernel
theorem d_Mo_first_179 : decode c_Mo_first 179 = .ok (.invokevirtual 88, 3) := by decide +kernel
theorem d_Mo_first_182 : decode c_Mo_first 182 = .ok (.invokevirtual 91, 3) := by decide +kernel
theorem d_Mo_first_185 : decode c_Mo_first 185 = .ok (.istore_n 2, 1) := by decide +kernel
theorem d_Mo_first_186 : decode c_Mo_first 186 = .ok (.iload_n 2, 1) := by decide +kernel
theorem d_Mo_first_187 : decode c_Mo_first 187 = .ok (.ifCond .eq 12, 3) := by decide +kernel
theorem d_Mo_first_190 : decode c_Mo_first 190 = .ok (.aload_n 0, 1) := by decide +kernel
theorem d_Mo_first_191 : decode c_Mo_first 191 = .ok (.invokevirtual 130, 3) := by decide +kernel
theorem d_Mo_first_194 : decode c_Mo_first 194 = .ok (.bipush 40, 2) := by decide +kernel
theorem d_Mo_first_196 : decode c_Mo_first 196 = .ok (.if_icmp .ne 12, 3) := by decide +kernel
theorem d_Mo_first_199 : decode c_Mo_first 199 = .ok (.aload_n 0, 1) := by decide +kernel
theorem d_Mo_first_200 : decode c_Mo_first 200 = .ok (.aload_n 0, 1) := by decide +kernel
theorem d_Mo_first_201 : decode c_Mo_first 201 = .ok (.getfield 101, 3) := by decide +kernel
theorem d_Mo_first_204 : decode c_Mo_first 204 = .ok (.invokevirtual 104, 3) := by decide +kernel
theorem d_Mo_first_207 : decode c_Mo_first 207 = .ok (.ireturn, 1) := by decide +kernel
theorem d_Mo_first_208 : decode c_Mo_first 208 = .ok (.aload_n 0, 1) := by decide +kernel
theorem d_Mo_first_209 : decode c_Mo_first 209 = .ok (.dup, 1) := by decide +kernel
theorem d_Mo_first_210 : decode c_Mo_first 210 = .ok (.getfield 101, 3) := by decide +kernel
theorem d_Mo_first_213 : decode c_Mo_first 213 = .ok (.aload_n 0, 1) := by decide +kernel
theorem d_Mo_first_214 : decode c_Mo_first 214 = .ok (.aload_n 0, 1) := by decide +kernel
theorem d_Mo_first_215 : decode c_Mo_first 215 = .ok (.getfield 101, 3) := by decide +kernel
theorem d_Mo_first_218 : decode c_Mo_first 218 = .ok (.invokevirtual 88, 3) := by decide +kernel
theorem d_Mo_first_221 : decode c_Mo_first 221 = .ok (.iadd, 1) := by decide +kernel
theorem d_Mo_first_222 : decode c_Mo_first 222 = .ok (.putfield 101, 3) := by decide +kernel
theorem d_Mo_first_225 : decode c_Mo_first 225 = .ok (.aload_n 0, 1) := by decide +kernel
theorem d_Mo_first_226 : decode c_Mo_first 226 = .ok (.bipush 32, 2) := by decide +kernel
theorem d_Mo_first_228 : decode c_Mo_first 228 = .ok (.invokevirtual 107, 3) := by decide +kernel
theorem d_Mo_first_231 : decode c_Mo_first 231 = .ok (.ifCond .ne 5, 3) := by decide +kernel
theorem d_Mo_first_234 : decode c_Mo_first 234 = .ok (.iconst 0, 1) := by decide +kernel
theorem d_Mo_first_235 : decode c_Mo_first 235 = .ok (.ireturn, 1) := by decide +kernel
theorem d_Mo_first_236 : decode c_Mo_first 236 = .ok (.aload_n 0, 1) := by decide +kernel
theorem d_Mo_first_237 : decode c_Mo_first 237 = .ok (.iload_n 2, 1) := by decide +kernel
theorem d_Mo_first_238 : decode c_Mo_first 238 = .ok (.iconst 3, 1) := by decide +kernel
theorem d_Mo_first_239 : decode c_Mo_first 239 = .ok (.if_icmp .ne 7, 3) := by decide +kernel
theorem d_Mo_first_242 : decode c_Mo_first 242 = .ok (.iconst 1, 1) := by decide +kernel
theorem d_Mo_first_243 : decode c_Mo_first 243 = .ok (.goto 4, 3) := by decide +kernel
theorem d_Mo_first_246 : decode c_Mo_first 246 = .ok (.iconst 0, 1) := by decide +kernel
theorem d_Mo_first_247 : decode c_Mo_first 247 = .ok (.invokevirtual 151, 3) := by decide +kernel
theorem d_Mo_first_250 : decode c_Mo_first 250 = .ok (.aload_n 0, 1) := by decide +kernel
theorem d_Mo_first_251 : decode c_Mo_first 251 = .ok (.getfield 33, 3) := by decide +kernel
theorem d_Mo_first_254 : decode c_Mo_first 254 = .ok (.aload_n 0, 1) := by decide +kernel
theorem d_Mo_first_255 : decode c_Mo_first 255 = .ok (.getfield 137, 3) := by decide +kernel
theorem d_Mo_first_258 : decode c_Mo_first 258 = .ok (.iload_n 2, 1) := by decide +kernel
theorem d_Mo_first_259 : decode c_Mo_first 259 = .ok (.iastore, 1) := by decide +kernel
theorem d_Mo_first_260 : decode c_Mo_first 260 = .ok (.aload_n 0, 1) := by decide +kernel
theorem d_Mo_first_261 : decode c_Mo_first 261 = .ok (.dup, 1) := by decide +kernel
theorem d_Mo_first_262 : decode c_Mo_first 262 = .ok (.getfield 137, 3) := by decide +kernel
theorem d_Mo_first_265 : decode c_Mo_first 265 = .ok (.iconst 1, 1) := by decide +kernel
theorem d_Mo_first_266 : decode c_Mo_first 266 = .ok (.iadd, 1) := by decide +kernel
theorem d_Mo_first_267 : decode c_Mo_first 267 = .ok (.putfield 137, 3) := by decide +kernel
theorem d_Mo_first_270 : decode c_Mo_first 270 = .ok (.iconst 1, 1) := by decide +kernel
theorem d_Mo_first_271 : decode c_Mo_first 271 = .ok (.istore_n 1, 1) := by decide +kernel
theorem d_Mo_first_272 : decode c_Mo_first 272 = .ok (.goto (-270), 3) := by decide +kernel
theorem d_Mo_named2_0 : decode c_Mo_named2 0 = .ok (.aload_n 0, 1) := by decide +kernel
theorem d_Mo_named2_1 : decode c_Mo_named2 1 = .ok (.invokevirtual 127, 3) := by decide +kernel
theorem d_Mo_named2_4 : decode c_Mo_named2 4 = .ok (.istore_n 1, 1) := by decide +kernel
theorem d_Mo_named2_5 : decode c_Mo_named2 5 = .ok (.iload_n 1, 1) := by decide +kernel
theorem d_Mo_named2_6 : decode c_Mo_named2 6 = .ok (.iconst (-1), 1) := by decide +kernel
theorem d_Mo_named2_7 : decode c_Mo_named2 7 = .ok (.if_icmp .eq 23, 3) := by decide +kernel
theorem d_Mo_named2_10 : decode c_Mo_named2 10 = .ok (.aload_n 0, 1) := by decide +kernel
theorem d_Mo_named2_11 : decode c_Mo_named2 11 = .ok (.invokevirtual 130, 3) := by decide +kernel
theorem d_Mo_named2_14 : decode c_Mo_named2 14 = .ok (.bipush 40, 2) := by decide +kernel
theorem d_Mo_named2_16 : decode c_Mo_named2 16 = .ok (.if_icmp .ne 16, 3) := by decide +kernel
theorem d_Mo_named2_19 : decode c_Mo_named2 19 = .ok (.aload_n 0, 1) := by decide +kernel
theorem d_Mo_named2_20 : decode c_Mo_named2 20 = .ok (.aload_n 0, 1) := by decide +kernel
theorem d_Mo_named2_21 : decode c_Mo_named2 21 = .ok (.getfield 101, 3) := by decide +kernel
theorem d_Mo_named2_24 : decode c_Mo_named2 24 = .ok (.invokevirtual 104, 3) := by decide +kernel
theorem d_Mo_named2_27 : decode c_Mo_named2 27 = .ok (.ifCond .ne 5, 3) := by decide +kernel
theorem d_Mo_named2_30 : decode c_Mo_named2 30 = .ok (.iconst 0, 1) := by decide +kernel
theorem d_Mo_named2_31 : decode c_Mo_named2 31 = .ok (.ireturn, 1) := by decide +kernel
theorem d_Mo_named2_32 : decode c_Mo_named2 32 = .ok (.aload_n 0, 1) := by decide +kernel
theorem d_Mo_named2_33 : decode c_Mo_named2 33 = .ok (.dup, 1) := by decide +kernel
theorem d_Mo_named2_34 : decode c_Mo_named2 34 = .ok (.getfield 101, 3) := by decide +kernel
theorem d_Mo_named2_37 : decode c_Mo_named2 37 = .ok (.aload_n 0, 1) := by decide +kernel
theorem d_Mo_named2_38 : decode c_Mo_named2 38 = .ok (.aload_n 0, 1) := by decide +kernel
theorem d_Mo_named2_39 : decode c_Mo_named2 39 = .ok (.getfield 101, 3) := by decide +kernel
theorem d_Mo_named2_42 : decode c_Mo_named2 42 = .ok (.invokevirtual 88, 3) := by decide +kernel
theorem d_Mo_named2_45 : decode c_Mo_named2 45 = .ok (.iadd, 1) := by decide +kernel
theorem d_Mo_named2_46 : decode c_Mo_named2 46 = .ok (.putfield 101, 3) := by decide +kernel
theorem d_Mo_named2_49 : decode c_Mo_named2 49 = .ok (.aload_n 0, 1) := by decide +kernel
theorem d_Mo_named2_50 : decode c_Mo_named2 50 = .ok (.bipush 32, 2) := by decide +kernel
theorem d_Mo_named2_52 : decode c_Mo_named2 52 = .ok (.invokevirtual 107, 3) := by decide +kernel
theorem d_Mo_named2_55 : decode c_Mo_named2 55 = .ok (.ifCond .ne 5, 3) := by decide +kernel
theorem d_Mo_named2_58 : decode c_Mo_named2 58 = .ok (.iconst 0, 1) := by decide +kernel
theorem d_Mo_named2_59 : decode c_Mo_named2 59 = .ok (.ireturn, 1) := by decide +kernel
theorem d_Mo_named2_60 : decode c_Mo_named2 60 = .ok (.aload_n 0, 1) := by decide +kernel
theorem d_Mo_named2_61 : decode c_Mo_named2 61 = .ok (.invokevirtual 123, 3) := by decide +kernel
theorem d_Mo_named2_64 : decode c_Mo_named2 64 = .ok (.istore_n 2, 1) := by decide +kernel
theorem d_Mo_named2_65 : decode c_Mo_named2 65 = .ok (.iload_n 2, 1) := by decide +kernel
theorem d_Mo_named2_66 : decode c_Mo_named2 66 = .ok (.iconst (-1), 1) := by decide +kernel
theorem d_Mo_named2_67 : decode c_Mo_named2 67 = .ok (.if_icmp .ne 5, 3) := by decide +kernel
theorem d_Mo_named2_70 : decode c_Mo_named2 70 = .ok (.iconst 0, 1) := by decide +kernel
theorem d_Mo_named2_71 : decode c_Mo_named2 71 = .ok (.ireturn, 1) := by decide +kernel
theorem d_Mo_named2_72 : decode c_Mo_named2 72 = .ok (.aload_n 0, 1) := by decide +kernel
theorem d_Mo_named2_73 : decode c_Mo_named2 73 = .ok (.aload_n 0, 1) := by decide +kernel
theorem d_Mo_named2_74 : decode c_Mo_named2 74 = .ok (.getfield 101, 3) := by decide +kernel
theorem d_Mo_named2_77 : decode c_Mo_named2 77 = .ok (.invokevirtual 77, 3) := by decide +kernel
theorem d_Mo_named2_80 : decode c_Mo_named2 80 = .ok (.bipush 32, 2) := by decide +kernel
theorem d_Mo_named2_82 : decode c_Mo_named2 82 = .ok (.if_icmp .ne 36, 3) := by decide +kernel
theorem d_Mo_named2_85 : decode c_Mo_named2 85 = .ok (.aload_n 0, 1) := by decide +kernel
theorem d_Mo_named2_86 : decode c_Mo_named2 86 = .ok (.aload_n 0, 1) := by decide +kernel
theorem d_Mo_named2_87 : decode c_Mo_named2 87 = .ok (.getfield 101, 3) := by decide +kernel
theorem d_Mo_named2_90 : decode c_Mo_named2 90 = .ok (.iconst 1, 1) := by decide +kernel
theorem d_Mo_named2_91 : decode c_Mo_named2 91 = .ok (.iadd, 1) := by decide +kernel
theorem d_Mo_named2_92 : decode c_Mo_named2 92 = .ok (.invokevirtual 77, 3) := by decide +kernel
theorem d_Mo_named2_95 : decode c_Mo_named2 95 = .ok (.invokestatic 110, 3) := by decide +kernel
theorem d_Mo_named2_98 : decode c_Mo_named2 98 = .ok (.ifCond .eq 20, 3) := by decide +kernel
theorem d_Mo_named2_101 : decode c_Mo_named2 101 = .ok (.aload_n 0, 1) := by decide +kernel
theorem d_Mo_named2_102 : decode c_Mo_named2 102 = .ok (.dup, 1) := by decide +kernel
theorem d_Mo_named2_103 : decode c_Mo_named2 103 = .ok (.getfield 101, 3) := by decide +kernel
theorem d_Mo_named2_106 : decode c_Mo_named2 106 = .ok (.iconst 1, 1) := by decide +kernel
theorem d_Mo_named2_107 : decode c_Mo_named2 107 = .ok (.iadd, 1) := by decide +kernel
theorem d_Mo_named2_108 : decode c_Mo_named2 108 = .ok (.putfield 101, 3) := by decide +kernel
theorem d_Mo_named2_111 : decode c_Mo_named2 111 = .ok (.aload_n 0, 1) := by decide +kernel
theorem d_Mo_named2_112 : decode c_Mo_named2 112 = .ok (.iload_n 1, 1) := by decide +kernel
theorem d_Mo_named2_113 : decode c_Mo_named2 113 = .ok (.iload_n 2, 1) := by decide +kernel
theorem d_Mo_named2_114 : decode c_Mo_named2 114 = .ok (.invokevirtual 133, 3) := by decide +kernel
theorem d_Mo_named2_117 : decode c_Mo_named2 117 = .ok (.ireturn, 1) := by decide +kernel
theorem d_Mo_named2_118 : decode c_Mo_named2 118 = .ok (.aload_n 0, 1) := by decide +kernel
theorem d_Mo_named2_119 : decode c_Mo_named2 119 = .ok (.aload_n 0, 1) := by decide +kernel
theorem d_Mo_named2_120 : decode c_Mo_named2 120 = .ok (.getfield 101, 3) := by decide +kernel
theorem d_Mo_named2_123 : decode c_Mo_named2 123 = .ok (.invokevirtual 77, 3) := by decide +kernel
theorem d_Mo_named2_126 : decode c_Mo_named2 126 = .ok (.bipush 32, 2) := by decide +kernel
theorem d_Mo_named2_128 : decode c_Mo_named2 128 = .ok (.if_icmp .ne 39, 3) := by decide +kernel
theorem d_Mo_named2_131 : decode c_Mo_named2 131 = .ok (.aload_n 0, 1) := by decide +kernel
theorem d_Mo_named2_132 : decode c_Mo_named2 132 = .ok (.aload_n 0, 1) := by decide +kernel
theorem d_Mo_named2_133 : decode c_Mo_named2 133 = .ok (.getfield 101, 3) := by decide +kernel
theorem d_Mo_named2_136 : decode c_Mo_named2 136 = .ok (.iconst 1, 1) := by decide +kernel
theorem d_Mo_named2_137 : decode c_Mo_named2 137 = .ok (.iadd, 1) := by decide +kernel
theorem d_Mo_named2_138 : decode c_Mo_named2 138 = .ok (.invokevirtual 77, 3) := by decide +kernel
theorem d_Mo_named2_141 : decode c_Mo_named2 141 = .ok (.bipush 42, 2) := by decide +kernel
theorem d_Mo_named2_143 : decode c_Mo_named2 143 = .ok (.if_icmp .ne 24, 3) := by decide +kernel
theorem d_Mo_named2_146 : decode c_Mo_named2 146 = .ok (.aload_n 0, 1) := by decide +kernel
theorem d_Mo_named2_147 : decode c_Mo_named2 147 = .ok (.dup, 1) := by decide +kernel
theorem d_Mo_named2_148 : decode c_Mo_named2 148 = .ok (.getfield 101, 3) := by decide +kernel
theorem d_Mo_named2_151 : decode c_Mo_named2 151 = .ok (.iconst 2, 1) := by decide +kernel
theorem d_Mo_named2_152 : decode c_Mo_named2 152 = .ok (.iadd, 1) := by decide +kernel
theorem d_Mo_named2_153 : decode c_Mo_named2 153 = .ok (.putfield 101, 3) := by decide +kernel
theorem d_Mo_named2_156 : decode c_Mo_named2 156 = .ok (.aload_n 0, 1) := by decide +kernel
theorem d_Mo_named2_157 : decode c_Mo_named2 157 = .ok (.iconst 2, 1) := by decide +kernel
theorem d_Mo_named2_158 : decode c_Mo_named2 158 = .ok (.iload_n 1, 1) := by decide +kernel
theorem d_Mo_named2_159 : decode c_Mo_named2 159 = .ok (.iload_n 2, 1) := by decide +kernel
theorem d_Mo_named2_160 : decode c_Mo_named2 160 = .ok (.iconst (-1), 1) := by decide +kernel
theorem d_Mo_named2_161 : decode c_Mo_named2 161 = .ok (.invokevirtual 119, 3) := by decide +kernel
theorem d_Mo_named2_164 : decode c_Mo_named2 164 = .ok (.goto 42, 3) := by decide +kernel
theorem d_Mo_named2_167 : decode c_Mo_named2 167 = .ok (.aload_n 0, 1) := by decide +kernel
theorem d_Mo_named2_168 : decode c_Mo_named2 168 = .ok (.aload_n 0, 1) := by decide +kernel
theorem d_Mo_named2_169 : decode c_Mo_named2 169 = .ok (.getfield 101, 3) := by decide +kernel
theorem d_Mo_named2_172 : decode c_Mo_named2 172 = .ok (.invokevirtual 77, 3) := by decide +kernel
theorem d_Mo_named2_175 : decode c_Mo_named2 175 = .ok (.bipush 32, 2) := by decide +kernel
theorem d_Mo_named2_177 : decode c_Mo_named2 177 = .ok (.if_icmp .ne 21, 3) := by decide +kernel
theorem d_Mo_named2_180 : decode c_Mo_named2 180 = .ok (.aload_n 0, 1) := by decide +kernel
theorem d_Mo_named2_181 : decode c_Mo_named2 181 = .ok (.getfield 137, 3) := by decide +kernel
theorem d_Mo_named2_184 : decode c_Mo_named2 184 = .ok (.ifCond .ne 14, 3) := by decide +kernel
theorem d_Mo_named2_187 : decode c_Mo_named2 187 = .ok (.aload_n 0, 1) := by decide +kernel
theorem d_Mo_named2_188 : decode c_Mo_named2 188 = .ok (.aload_n 0, 1) := by decide +kernel
theorem d_Mo_named2_189 : decode c_Mo_named2 189 = .ok (.getfield 101, 3) := by decide +kernel
theorem d_Mo_named2_192 : decode c_Mo_named2 192 = .ok (.iconst 1, 1) := by decide +kernel
theorem d_Mo_named2_193 : decode c_Mo_named2 193 = .ok (.iadd, 1) := by decide +kernel
theorem d_Mo_named2_194 : decode c_Mo_named2 194 = .ok (.invokevirtual 104, 3) := by decide +kernel
theorem d_Mo_named2_197 : decode c_Mo_named2 197 = .ok (.ireturn, 1) := by decide +kernel
theorem d_Mo_named2_198 : decode c_Mo_named2 198 = .ok (.aload_n 0, 1) := by decide +kernel
theorem d_Mo_named2_199 : decode c_Mo_named2 199 = .ok (.iconst 0, 1) := by decide +kernel
theorem d_Mo_named2_200 : decode c_Mo_named2 200 = .ok (.iload_n 1, 1) := by decide +kernel
theorem d_Mo_named2_201 : decode c_Mo_named2 201 = .ok (.iload_n 2, 1) := by decide +kernel
theorem d_Mo_named2_202 : decode c_Mo_named2 202 = .ok (.iconst (-1), 1) := by decide +kernel
theorem d_Mo_named2_203 : decode c_Mo_named2 203 = .ok (.invokevirtual 119, 3) := by decide +kernel
theorem d_Mo_named2_206 : decode c_Mo_named2 206 = .ok (.iconst 1, 1) := by decide +kernel
theorem d_Mo_named2_207 : decode c_Mo_named2 207 = .ok (.ireturn, 1) := by decide +kernel
end
section
theorem d_Mo_second_0 : decode c_Mo_second 0 = .ok (.iconst 1, 1) := by decide +kernel
theorem d_Mo_second_1 : decode c_Mo_second 1 = .ok (.istore_n 1, 1) := by decide +kernel
theorem d_Mo_second_2 : decode c_Mo_second 2 = .ok (.iload_n 1, 1) := by decide +kernel
theorem d_Mo_second_3 : decode c_Mo_second 3 = .ok (.ifCond .eq 217, 3) := by decide +kernel
theorem d_Mo_second_6 : decode c_Mo_second 6 = .ok (.aload_n 0, 1) := by decide +kernel
theorem d_Mo_second_7 : decode c_Mo_second 7 = .ok (.aload_n 0, 1) := by decide +kernel
theorem d_Mo_second_8 : decode c_Mo_second 8 = .ok (.getfield 101, 3) := by decide +kernel
theorem d_Mo_second_11 : decode c_Mo_second 11 = .ok (.aload_n 0, 1) := by decide +kernel
theorem d_Mo_second_12 : decode c_Mo_second 12 = .ok (.aload_n 0, 1) := by decide +kernel
theorem d_Mo_second_13 : decode c_Mo_second 13 = .ok (.getfield 101, 3) := by decide +kernel
theorem d_Mo_second_16 : decode c_Mo_second 16 = .ok (.invokevirtual 88, 3) := by decide +kernel
theorem d_Mo_second_19 : decode c_Mo_second 19 = .ok (.invokevirtual 91, 3) := by decide +kernel
theorem d_Mo_second_22 : decode c_Mo_second 22 = .ok (.istore_n 2, 1) := by decide +kernel
theorem d_Mo_second_23 : decode c_Mo_second 23 = .ok (.iload_n 2, 1) := by decide +kernel
theorem d_Mo_second_24 : decode c_Mo_second 24 = .ok (.ifCond .le 119, 3) := by decide +kernel
theorem d_Mo_second_27 : decode c_Mo_second 27 = .ok (.aload_n 0, 1) := by decide +kernel
theorem d_Mo_second_28 : decode c_Mo_second 28 = .ok (.invokevirtual 154, 3) := by decide +kernel
theorem d_Mo_second_31 : decode c_Mo_second 31 = .ok (.bipush 40, 2) := by decide +kernel
theorem d_Mo_second_33 : decode c_Mo_second 33 = .ok (.if_icmp .ne 12, 3) := by decide +kernel
theorem d_Mo_second_36 : decode c_Mo_second 36 = .ok (.aload_n 0, 1) := by decide +kernel
theorem d_Mo_second_37 : decode c_Mo_second 37 = .ok (.aload_n 0, 1) := by decide +kernel
theorem d_Mo_second_38 : decode c_Mo_second 38 = .ok (.getfield 101, 3) := by decide +kernel
theorem d_Mo_second_41 : decode c_Mo_second 41 = .ok (.invokevirtual 104, 3) := by decide +kernel
theorem d_Mo_second_44 : decode c_Mo_second 44 = .ok (.ireturn, 1) := by decide +kernel
theorem d_Mo_second_45 : decode c_Mo_second 45 = .ok (.aload_n 0, 1) := by decide +kernel
theorem d_Mo_second_46 : decode c_Mo_second 46 = .ok (.dup, 1) := by decide +kernel
theorem d_Mo_second_47 : decode c_Mo_second 47 = .ok (.getfield 101, 3) := by decide +kernel
theorem d_Mo_second_50 : decode c_Mo_second 50 = .ok (.aload_n 0, 1) := by decide +kernel
theorem d_Mo_second_51 : decode c_Mo_second 51 = .ok (.aload_n 0, 1) := by decide +kernel
theorem d_Mo_second_52 : decode c_Mo_second 52 = .ok (.getfield 101, 3) := by decide +kernel
theorem d_Mo_second_55 : decode c_Mo_second 55 = .ok (.invokevirtual 88, 3) := by decide +kernel
theorem d_Mo_second_58 : decode c_Mo_second 58 = .ok (.iadd, 1) := by decide +kernel
theorem d_Mo_second_59 : decode c_Mo_second 59 = .ok (.putfield 101, 3) := by decide +kernel
theorem d_Mo_second_62 : decode c_Mo_second 62 = .ok (.aload_n 0, 1) := by decide +kernel
theorem d_Mo_second_63 : decode c_Mo_second 63 = .ok (.bipush 32, 2) := by decide +kernel
theorem d_Mo_second_65 : decode c_Mo_second 65 = .ok (.invokevirtual 107, 3) := by decide +kernel
theorem d_Mo_second_68 : decode c_Mo_second 68 = .ok (.ifCond .ne 5, 3) := by decide +kernel
theorem d_Mo_second_71 : decode c_Mo_second 71 = .ok (.iconst 0, 1) := by decide +kernel
theorem d_Mo_second_72 : decode c_Mo_second 72 = .ok (.ireturn, 1) := by decide +kernel
theorem d_Mo_second_73 : decode c_Mo_second 73 = .ok (.aload_n 0, 1) := by decide +kernel
theorem d_Mo_second_74 : decode c_Mo_second 74 = .ok (.aload_n 0, 1) := by decide +kernel
theorem d_Mo_second_75 : decode c_Mo_second 75 = .ok (.getfield 101, 3) := by decide +kernel
theorem d_Mo_second_78 : decode c_Mo_second 78 = .ok (.invokevirtual 77, 3) := by decide +kernel
theorem d_Mo_second_81 : decode c_Mo_second 81 = .ok (.bipush 40, 2) := by decide +kernel
theorem d_Mo_second_83 : decode c_Mo_second 83 = .ok (.if_icmp .ne 21, 3) := by decide +kernel
theorem d_Mo_second_86 : decode c_Mo_second 86 = .ok (.aload_n 0, 1) := by decide +kernel
theorem d_Mo_second_87 : decode c_Mo_second 87 = .ok (.getfield 137, 3) := by decide +kernel
theorem d_Mo_second_90 : decode c_Mo_second 90 = .ok (.bipush 20, 2) := by decide +kernel
theorem d_Mo_second_92 : decode c_Mo_second 92 = .ok (.if_icmp .ne 12, 3) := by decide +kernel
theorem d_Mo_second_95 : decode c_Mo_second 95 = .ok (.aload_n 0, 1) := by decide +kernel
theorem d_Mo_second_96 : decode c_Mo_second 96 = .ok (.aload_n 0, 1) := by decide +kernel
theorem d_Mo_second_97 : decode c_Mo_second 97 = .ok (.getfield 101, 3) := by decide +kernel
theorem d_Mo_second_100 : decode c_Mo_second 100 = .ok (.invokevirtual 104, 3) := by decide +kernel
theorem d_Mo_second_103 : decode c_Mo_second 103 = .ok (.ireturn, 1) := by decide +kernel
theorem d_Mo_second_104 : decode c_Mo_second 104 = .ok (.aload_n 0, 1) := by decide +kernel
theorem d_Mo_second_105 : decode c_Mo_second 105 = .ok (.bipush 40, 2) := by decide +kernel
theorem d_Mo_second_107 : decode c_Mo_second 107 = .ok (.bipush 32, 2) := by decide +kernel
theorem d_Mo_second_109 : decode c_Mo_second 109 = .ok (.invokevirtual 157, 3) := by decide +kernel
theorem d_Mo_second_112 : decode c_Mo_second 112 = .ok (.ifCond .ne 5, 3) := by decide +kernel
theorem d_Mo_second_115 : decode c_Mo_second 115 = .ok (.iconst 0, 1) := by decide +kernel
theorem d_Mo_second_116 : decode c_Mo_second 116 = .ok (.ireturn, 1) := by decide +kernel
theorem d_Mo_second_117 : decode c_Mo_second 117 = .ok (.aload_n 0, 1) := by decide +kernel
theorem d_Mo_second_118 : decode c_Mo_second 118 = .ok (.getfield 33, 3) := by decide +kernel
theorem d_Mo_second_121 : decode c_Mo_second 121 = .ok (.aload_n 0, 1) := by decide +kernel
theorem d_Mo_second_122 : decode c_Mo_second 122 = .ok (.getfield 137, 3) := by decide +kernel
theorem d_Mo_second_125 : decode c_Mo_second 125 = .ok (.bipush 10, 2) := by decide +kernel
theorem d_Mo_second_127 : decode c_Mo_second 127 = .ok (.iload_n 2, 1) := by decide +kernel
theorem d_Mo_second_128 : decode c_Mo_second 128 = .ok (.iadd, 1) := by decide +kernel
theorem d_Mo_second_129 : decode c_Mo_second 129 = .ok (.iastore, 1) := by decide +kernel
theorem d_Mo_second_130 : decode c_Mo_second 130 = .ok (.aload_n 0, 1) := by decide +kernel
theorem d_Mo_second_131 : decode c_Mo_second 131 = .ok (.dup, 1) := by decide +kernel
theorem d_Mo_second_132 : decode c_Mo_second 132 = .ok (.getfield 137, 3) := by decide +kernel
theorem d_Mo_second_135 : decode c_Mo_second 135 = .ok (.iconst 1, 1) := by decide +kernel
theorem d_Mo_second_136 : decode c_Mo_second 136 = .ok (.iadd, 1) := by decide +kernel
theorem d_Mo_second_137 : decode c_Mo_second 137 = .ok (.putfield 137, 3) := by decide +kernel
theorem d_Mo_second_140 : decode c_Mo_second 140 = .ok (.goto 77, 3) := by decide +kernel
theorem d_Mo_second_143 : decode c_Mo_second 143 = .ok (.aload_n 0, 1) := by decide +kernel
theorem d_Mo_second_144 : decode c_Mo_second 144 = .ok (.aload_n 0, 1) := by decide +kernel
theorem d_Mo_second_145 : decode c_Mo_second 145 = .ok (.getfield 101, 3) := by decide +kernel
theorem d_Mo_second_148 : decode c_Mo_second 148 = .ok (.invokevirtual 77, 3) := by decide +kernel
theorem d_Mo_second_151 : decode c_Mo_second 151 = .ok (.invokestatic 81, 3) := by decide +kernel
theorem d_Mo_second_154 : decode c_Mo_second 154 = .ok (.ifCond .ne 12, 3) := by decide +kernel
theorem d_Mo_second_157 : decode c_Mo_second 157 = .ok (.aload_n 0, 1) := by decide +kernel
theorem d_Mo_second_158 : decode c_Mo_second 158 = .ok (.aload_n 0, 1) := by decide +kernel
theorem d_Mo_second_159 : decode c_Mo_second 159 = .ok (.getfield 101, 3) := by decide +kernel
theorem d_Mo_second_162 : decode c_Mo_second 162 = .ok (.invokevirtual 104, 3) := by decide +kernel
theorem d_Mo_second_165 : decode c_Mo_second 165 = .ok (.ireturn, 1) := by decide +kernel
theorem d_Mo_second_166 : decode c_Mo_second 166 = .ok (.aload_n 0, 1) := by decide +kernel
theorem d_Mo_second_167 : decode c_Mo_second 167 = .ok (.getfield 101, 3) := by decide +kernel
theorem d_Mo_second_170 : decode c_Mo_second 170 = .ok (.istore_n 3, 1) := by decide +kernel
theorem d_Mo_second_171 : decode c_Mo_second 171 = .ok (.aload_n 0, 1) := by decide +kernel
theorem d_Mo_second_172 : decode c_Mo_second 172 = .ok (.aload_n 0, 1) := by decide +kernel
theorem d_Mo_second_173 : decode c_Mo_second 173 = .ok (.getfield 101, 3) := by decide +kernel
theorem d_Mo_second_176 : decode c_Mo_second 176 = .ok (.aload_n 0, 1) := by decide +kernel
theorem d_Mo_second_177 : decode c_Mo_second 177 = .ok (.aload_n 0, 1) := by decide +kernel
theorem d_Mo_second_178 : decode c_Mo_second 178 = .ok (.getfield 101, 3) := by decide +kernel
theorem d_Mo_second_181 : decode c_Mo_second 181 = .ok (.invokevirtual 88, 3) := by decide +kernel
theorem d_Mo_second_184 : decode c_Mo_second 184 = .ok (.invokevirtual 95, 3) := by decide +kernel
theorem d_Mo_second_187 : decode c_Mo_second 187 = .ok (.iconst (-1), 1) := by decide +kernel
theorem d_Mo_second_188 : decode c_Mo_second 188 = .ok (.if_icmp .eq 18, 3) := by decide +kernel
theorem d_Mo_second_191 : decode c_Mo_second 191 = .ok (.aload_n 0, 1) := by decide +kernel
theorem d_Mo_second_192 : decode c_Mo_second 192 = .ok (.invokevirtual 154, 3) := by decide +kernel
theorem d_Mo_second_195 : decode c_Mo_second 195 = .ok (.bipush 40, 2) := by decide +kernel
theorem d_Mo_second_197 : decode c_Mo_second 197 = .ok (.if_icmp .ne 9, 3) := by decide +kernel
theorem d_Mo_second_200 : decode c_Mo_second 200 = .ok (.aload_n 0, 1) := by decide +kernel
theorem d_Mo_second_201 : decode c_Mo_second 201 = .ok (.iload_n 3, 1) := by decide +kernel
theorem d_Mo_second_202 : decode c_Mo_second 202 = .ok (.invokevirtual 104, 3) := by decide +kernel
theorem d_Mo_second_205 : decode c_Mo_second 205 = .ok (.ireturn, 1) := by decide +kernel
theorem d_Mo_second_206 : decode c_Mo_second 206 = .ok (.aload_n 0, 1) := by decide +kernel
theorem d_Mo_second_207 : decode c_Mo_second 207 = .ok (.invokevirtual 160, 3) := by decide +kernel
theorem d_Mo_second_210 : decode c_Mo_second 210 = .ok (.ifCond .ne 5, 3) := by decide +kernel
theorem d_Mo_second_213 : decode c_Mo_second 213 = .ok (.iconst 0, 1) := by decide +kernel
theorem d_Mo_second_214 : decode c_Mo_second 214 = .ok (.ireturn, 1) := by decide +kernel
theorem d_Mo_second_215 : decode c_Mo_second 215 = .ok (.iconst 0, 1) := by decide +kernel
theorem d_Mo_second_216 : decode c_Mo_second 216 = .ok (.istore_n 1, 1) := by decide +kernel
theorem d_Mo_second_217 : decode c_Mo_second 217 = .ok (.goto (-215), 3) := by decide +kernel
theorem d_Mo_second_220 : decode c_Mo_second 220 = .ok (.aload_n 0, 1) := by decide +kernel
theorem d_Mo_second_221 : decode c_Mo_second 221 = .ok (.getfield 137, 3) := by decide +kernel
theorem d_Mo_second_224 : decode c_Mo_second 224 = .ok (.ifCond .ne 31, 3) := by decide +kernel
theorem d_Mo_second_227 : decode c_Mo_second 227 = .ok (.aload_n 0, 1) := by decide +kernel
theorem d_Mo_second_228 : decode c_Mo_second 228 = .ok (.getfield 101, 3) := by decide +kernel
theorem d_Mo_second_231 : decode c_Mo_second 231 = .ok (.aload_n 0, 1) := by decide +kernel
theorem d_Mo_second_232 : decode c_Mo_second 232 = .ok (.getfield 74, 3) := by decide +kernel
theorem d_Mo_second_235 : decode c_Mo_second 235 = .ok (.if_icmp .eq 14, 3) := by decide +kernel
theorem d_Mo_second_238 : decode c_Mo_second 238 = .ok (.aload_n 0, 1) := by decide +kernel
theorem d_Mo_second_239 : decode c_Mo_second 239 = .ok (.aload_n 0, 1) := by decide +kernel
theorem d_Mo_second_240 : decode c_Mo_second 240 = .ok (.getfield 101, 3) := by decide +kernel
theorem d_Mo_second_243 : decode c_Mo_second 243 = .ok (.invokevirtual 104, 3) := by decide +kernel
theorem d_Mo_second_246 : decode c_Mo_second 246 = .ok (.ifCond .eq 7, 3) := by decide +kernel
theorem d_Mo_second_249 : decode c_Mo_second 249 = .ok (.iconst 1, 1) := by decide +kernel
theorem d_Mo_second_250 : decode c_Mo_second 250 = .ok (.goto 4, 3) := by decide +kernel
theorem d_Mo_second_253 : decode c_Mo_second 253 = .ok (.iconst 0, 1) := by decide +kernel
theorem d_Mo_second_254 : decode c_Mo_second 254 = .ok (.ireturn, 1) := by decide +kernel
theorem d_Mo_second_255 : decode c_Mo_second 255 = .ok (.aload_n 0, 1) := by decide +kernel
theorem d_Mo_second_256 : decode c_Mo_second 256 = .ok (.bipush 32, 2) := by decide +kernel
theorem d_Mo_second_258 : decode c_Mo_second 258 = .ok (.bipush 41, 2) := by decide +kernel
theorem d_Mo_second_260 : decode c_Mo_second 260 = .ok (.invokevirtual 157, 3) := by decide +kernel
theorem d_Mo_second_263 : decode c_Mo_second 263 = .ok (.ifCond .ne 5, 3) := by decide +kernel
theorem d_Mo_second_266 : decode c_Mo_second 266 = .ok (.iconst 0, 1) := by decide +kernel
theorem d_Mo_second_267 : decode c_Mo_second 267 = .ok (.ireturn, 1) := by decide +kernel
theorem d_Mo_second_268 : decode c_Mo_second 268 = .ok (.aload_n 0, 1) := by decide +kernel
theorem d_Mo_second_269 : decode c_Mo_second 269 = .ok (.getfield 33, 3) := by decide +kernel
theorem d_Mo_second_272 : decode c_Mo_second 272 = .ok (.aload_n 0, 1) := by decide +kernel
theorem d_Mo_second_273 : decode c_Mo_second 273 = .ok (.getfield 137, 3) := by decide +kernel
theorem d_Mo_second_276 : decode c_Mo_second 276 = .ok (.iconst 1, 1) := by decide +kernel
theorem d_Mo_second_277 : decode c_Mo_second 277 = .ok (.isub, 1) := by decide +kernel
theorem d_Mo_second_278 : decode c_Mo_second 278 = .ok (.iaload, 1) := by decide +kernel
theorem d_Mo_second_279 : decode c_Mo_second 279 = .ok (.bipush 20, 2) := by decide +kernel
theorem d_Mo_second_281 : decode c_Mo_second 281 = .ok (.if_icmp .ge 46, 3) := by decide +kernel
theorem d_Mo_second_284 : decode c_Mo_second 284 = .ok (.aload_n 0, 1) := by decide +kernel
theorem d_Mo_second_285 : decode c_Mo_second 285 = .ok (.bipush 32, 2) := by decide +kernel
theorem d_Mo_second_287 : decode c_Mo_second 287 = .ok (.bipush 40, 2) := by decide +kernel
theorem d_Mo_second_289 : decode c_Mo_second 289 = .ok (.invokevirtual 157, 3) := by decide +kernel
theorem d_Mo_second_292 : decode c_Mo_second 292 = .ok (.ifCond .eq 12, 3) := by decide +kernel
theorem d_Mo_second_295 : decode c_Mo_second 295 = .ok (.aload_n 0, 1) := by decide +kernel
theorem d_Mo_second_296 : decode c_Mo_second 296 = .ok (.bipush 32, 2) := by decide +kernel
theorem d_Mo_second_298 : decode c_Mo_second 298 = .ok (.invokevirtual 107, 3) := by decide +kernel
theorem d_Mo_second_301 : decode c_Mo_second 301 = .ok (.ifCond .ne 5, 3) := by decide +kernel
theorem d_Mo_second_304 : decode c_Mo_second 304 = .ok (.iconst 0, 1) := by decide +kernel
theorem d_Mo_second_305 : decode c_Mo_second 305 = .ok (.ireturn, 1) := by decide +kernel
theorem d_Mo_second_306 : decode c_Mo_second 306 = .ok (.aload_n 0, 1) := by decide +kernel
theorem d_Mo_second_307 : decode c_Mo_second 307 = .ok (.getfield 33, 3) := by decide +kernel
theorem d_Mo_second_310 : decode c_Mo_second 310 = .ok (.aload_n 0, 1) := by decide +kernel
theorem d_Mo_second_311 : decode c_Mo_second 311 = .ok (.getfield 137, 3) := by decide +kernel
theorem d_Mo_second_314 : decode c_Mo_second 314 = .ok (.iconst 1, 1) := by decide +kernel
theorem d_Mo_second_315 : decode c_Mo_second 315 = .ok (.isub, 1) := by decide +kernel
theorem d_Mo_second_316 : decode c_Mo_second 316 = .ok (.dup2, 1) := by decide +kernel
theorem d_Mo_second_317 : decode c_Mo_second 317 = .ok (.iaload, 1) := by decide +kernel
theorem d_Mo_second_318 : decode c_Mo_second 318 = .ok (.bipush 10, 2) := by decide +kernel
theorem d_Mo_second_320 : decode c_Mo_second 320 = .ok (.iadd, 1) := by decide +kernel
theorem d_Mo_second_321 : decode c_Mo_second 321 = .ok (.iastore, 1) := by decide +kernel
theorem d_Mo_second_322 : decode c_Mo_second 322 = .ok (.iconst 1, 1) := by decide +kernel
theorem d_Mo_second_323 : decode c_Mo_second 323 = .ok (.istore_n 1, 1) := by decide +kernel
theorem d_Mo_second_324 : decode c_Mo_second 324 = .ok (.goto (-322), 3) := by decide +kernel
theorem d_Mo_second_327 : decode c_Mo_second 327 = .ok (.aload_n 0, 1) := by decide +kernel
theorem d_Mo_second_328 : decode c_Mo_second 328 = .ok (.dup, 1) := by decide +kernel
theorem d_Mo_second_329 : decode c_Mo_second 329 = .ok (.getfield 137, 3) := by decide +kernel
theorem d_Mo_second_332 : decode c_Mo_second 332 = .ok (.iconst 1, 1) := by decide +kernel
theorem d_Mo_second_333 : decode c_Mo_second 333 = .ok (.isub, 1) := by decide +kernel
theorem d_Mo_second_334 : decode c_Mo_second 334 = .ok (.putfield 137, 3) := by decide +kernel
theorem d_Mo_second_337 : decode c_Mo_second 337 = .ok (.aload_n 0, 1) := by decide +kernel
theorem d_Mo_second_338 : decode c_Mo_second 338 = .ok (.aload_n 0, 1) := by decide +kernel
theorem d_Mo_second_339 : decode c_Mo_second 339 = .ok (.getfield 33, 3) := by decide +kernel
theorem d_Mo_second_342 : decode c_Mo_second 342 = .ok (.aload_n 0, 1) := by decide +kernel
theorem d_Mo_second_343 : decode c_Mo_second 343 = .ok (.getfield 137, 3) := by decide +kernel
theorem d_Mo_second_346 : decode c_Mo_second 346 = .ok (.iaload, 1) := by decide +kernel
theorem d_Mo_second_347 : decode c_Mo_second 347 = .ok (.bipush 20, 2) := by decide +kernel
theorem d_Mo_second_349 : decode c_Mo_second 349 = .ok (.isub, 1) := by decide +kernel
theorem d_Mo_second_350 : decode c_Mo_second 350 = .ok (.invokevirtual 140, 3) := by decide +kernel
theorem d_Mo_second_353 : decode c_Mo_second 353 = .ok (.goto (-351), 3) := by decide +kernel
theorem d_Mo_count2_0 : decode c_Mo_count2 0 = .ok (.aload_n 0, 1) := by decide +kernel
theorem d_Mo_count2_1 : decode c_Mo_count2 1 = .ok (.getfield 116, 3) := by decide +kernel
theorem d_Mo_count2_4 : decode c_Mo_count2 4 = .ok (.aload_n 0, 1) := by decide +kernel
theorem d_Mo_count2_5 : decode c_Mo_count2 5 = .ok (.getfield 137, 3) := by decide +kernel
theorem d_Mo_count2_8 : decode c_Mo_count2 8 = .ok (.iadd, 1) := by decide +kernel
theorem d_Mo_count2_9 : decode c_Mo_count2 9 = .ok (.ireturn, 1) := by decide +kernel
theorem d_Mo_lay_0 : decode c_Mo_lay 0 = .ok (.iconst 0, 1) := by decide +kernel
theorem d_Mo_lay_1 : decode c_Mo_lay 1 = .ok (.istore_n 1, 1) := by decide +kernel
theorem d_Mo_lay_2 : decode c_Mo_lay 2 = .ok (.aload_n 0, 1) := by decide +kernel
theorem d_Mo_lay_3 : decode c_Mo_lay 3 = .ok (.iconst 1, 1) := by decide +kernel
theorem d_Mo_lay_4 : decode c_Mo_lay 4 = .ok (.putfield 137, 3) := by decide +kernel
theorem d_Mo_lay_7 : decode c_Mo_lay 7 = .ok (.aload_n 0, 1) := by decide +kernel
theorem d_Mo_lay_8 : decode c_Mo_lay 8 = .ok (.getfield 33, 3) := by decide +kernel
theorem d_Mo_lay_11 : decode c_Mo_lay 11 = .ok (.iconst 0, 1) := by decide +kernel
theorem d_Mo_lay_12 : decode c_Mo_lay 12 = .ok (.aload_n 0, 1) := by decide +kernel
theorem d_Mo_lay_13 : decode c_Mo_lay 13 = .ok (.getfield 116, 3) := by decide +kernel
theorem d_Mo_lay_16 : decode c_Mo_lay 16 = .ok (.iconst 1, 1) := by decide +kernel
theorem d_Mo_lay_17 : decode c_Mo_lay 17 = .ok (.isub, 1) := by decide +kernel
theorem d_Mo_lay_18 : decode c_Mo_lay 18 = .ok (.iastore, 1) := by decide +kernel
theorem d_Mo_lay_19 : decode c_Mo_lay 19 = .ok (.aload_n 0, 1) := by decide +kernel
theorem d_Mo_lay_20 : decode c_Mo_lay 20 = .ok (.getfield 137, 3) := by decide +kernel
theorem d_Mo_lay_23 : decode c_Mo_lay 23 = .ok (.ifCond .le 121, 3) := by decide +kernel
theorem d_Mo_lay_26 : decode c_Mo_lay 26 = .ok (.aload_n 0, 1) := by decide +kernel
theorem d_Mo_lay_27 : decode c_Mo_lay 27 = .ok (.dup, 1) := by decide +kernel
theorem d_Mo_lay_28 : decode c_Mo_lay 28 = .ok (.getfield 137, 3) := by decide +kernel
theorem d_Mo_lay_31 : decode c_Mo_lay 31 = .ok (.iconst 1, 1) := by decide +kernel
theorem d_Mo_lay_32 : decode c_Mo_lay 32 = .ok (.isub, 1) := by decide +kernel
theorem d_Mo_lay_33 : decode c_Mo_lay 33 = .ok (.putfield 137, 3) := by decide +kernel
theorem d_Mo_lay_36 : decode c_Mo_lay 36 = .ok (.aload_n 0, 1) := by decide +kernel
theorem d_Mo_lay_37 : decode c_Mo_lay 37 = .ok (.getfield 33, 3) := by decide +kernel
theorem d_Mo_lay_40 : decode c_Mo_lay 40 = .ok (.aload_n 0, 1) := by decide +kernel
theorem d_Mo_lay_41 : decode c_Mo_lay 41 = .ok (.getfield 137, 3) := by decide +kernel
theorem d_Mo_lay_44 : decode c_Mo_lay 44 = .ok (.iaload, 1) := by decide +kernel
theorem d_Mo_lay_45 : decode c_Mo_lay 45 = .ok (.istore_n 2, 1) := by decide +kernel
theorem d_Mo_lay_46 : decode c_Mo_lay 46 = .ok (.iconst 0, 1) := by decide +kernel
theorem d_Mo_lay_47 : decode c_Mo_lay 47 = .ok (.istore_n 3, 1) := by decide +kernel
theorem d_Mo_lay_48 : decode c_Mo_lay 48 = .ok (.iload_n 3, 1) := by decide +kernel
theorem d_Mo_lay_49 : decode c_Mo_lay 49 = .ok (.iconst 4, 1) := by decide +kernel
theorem d_Mo_lay_50 : decode c_Mo_lay 50 = .ok (.if_icmp .ge 33, 3) := by decide +kernel
theorem d_Mo_lay_53 : decode c_Mo_lay 53 = .ok (.aload_n 0, 1) := by decide +kernel
theorem d_Mo_lay_54 : decode c_Mo_lay 54 = .ok (.getfield 36, 3) := by decide +kernel
theorem d_Mo_lay_57 : decode c_Mo_lay 57 = .ok (.sipush 1600, 3) := by decide +kernel
theorem d_Mo_lay_60 : decode c_Mo_lay 60 = .ok (.iconst 4, 1) := by decide +kernel
theorem d_Mo_lay_61 : decode c_Mo_lay 61 = .ok (.iload_n 1, 1) := by decide +kernel
theorem d_Mo_lay_62 : decode c_Mo_lay 62 = .ok (.imul, 1) := by decide +kernel
theorem d_Mo_lay_63 : decode c_Mo_lay 63 = .ok (.iadd, 1) := by decide +kernel
theorem d_Mo_lay_64 : decode c_Mo_lay 64 = .ok (.iload_n 3, 1) := by decide +kernel
theorem d_Mo_lay_65 : decode c_Mo_lay 65 = .ok (.iadd, 1) := by decide +kernel
theorem d_Mo_lay_66 : decode c_Mo_lay 66 = .ok (.aload_n 0, 1) := by decide +kernel
theorem d_Mo_lay_67 : decode c_Mo_lay 67 = .ok (.getfield 27, 3) := by decide +kernel
theorem d_Mo_lay_70 : decode c_Mo_lay 70 = .ok (.iconst 4, 1) := by decide +kernel
theorem d_Mo_lay_71 : decode c_Mo_lay 71 = .ok (.iload_n 2, 1) := by decide +kernel
theorem d_Mo_lay_72 : decode c_Mo_lay 72 = .ok (.imul, 1) := by decide +kernel
theorem d_Mo_lay_73 : decode c_Mo_lay 73 = .ok (.iload_n 3, 1) := by decide +kernel
theorem d_Mo_lay_74 : decode c_Mo_lay 74 = .ok (.iadd, 1) := by decide +kernel
theorem d_Mo_lay_75 : decode c_Mo_lay 75 = .ok (.iaload, 1) := by decide +kernel
theorem d_Mo_lay_76 : decode c_Mo_lay 76 = .ok (.iastore, 1) := by decide +kernel
theorem d_Mo_lay_77 : decode c_Mo_lay 77 = .ok (.iinc 3 1, 3) := by decide +kernel
theorem d_Mo_lay_80 : decode c_Mo_lay 80 = .ok (.goto (-32), 3) := by decide +kernel
theorem d_Mo_lay_83 : decode c_Mo_lay 83 = .ok (.iinc 1 1, 3) := by decide +kernel
theorem d_Mo_lay_86 : decode c_Mo_lay 86 = .ok (.aload_n 0, 1) := by decide +kernel
theorem d_Mo_lay_87 : decode c_Mo_lay 87 = .ok (.getfield 27, 3) := by decide +kernel
theorem d_Mo_lay_90 : decode c_Mo_lay 90 = .ok (.iconst 4, 1) := by decide +kernel
theorem d_Mo_lay_91 : decode c_Mo_lay 91 = .ok (.iload_n 2, 1) := by decide +kernel
theorem d_Mo_lay_92 : decode c_Mo_lay 92 = .ok (.imul, 1) := by decide +kernel
theorem d_Mo_lay_93 : decode c_Mo_lay 93 = .ok (.iaload, 1) := by decide +kernel
theorem d_Mo_lay_94 : decode c_Mo_lay 94 = .ok (.iconst 2, 1) := by decide +kernel
theorem d_Mo_lay_95 : decode c_Mo_lay 95 = .ok (.if_icmp .le 46, 3) := by decide +kernel
theorem d_Mo_lay_98 : decode c_Mo_lay 98 = .ok (.aload_n 0, 1) := by decide +kernel
theorem d_Mo_lay_99 : decode c_Mo_lay 99 = .ok (.getfield 33, 3) := by decide +kernel
theorem d_Mo_lay_102 : decode c_Mo_lay 102 = .ok (.aload_n 0, 1) := by decide +kernel
theorem d_Mo_lay_103 : decode c_Mo_lay 103 = .ok (.getfield 137, 3) := by decide +kernel
theorem d_Mo_lay_106 : decode c_Mo_lay 106 = .ok (.iload_n 2, 1) := by decide +kernel
theorem d_Mo_lay_107 : decode c_Mo_lay 107 = .ok (.iconst 1, 1) := by decide +kernel
theorem d_Mo_lay_108 : decode c_Mo_lay 108 = .ok (.isub, 1) := by decide +kernel
theorem d_Mo_lay_109 : decode c_Mo_lay 109 = .ok (.iastore, 1) := by decide +kernel
theorem d_Mo_lay_110 : decode c_Mo_lay 110 = .ok (.aload_n 0, 1) := by decide +kernel
theorem d_Mo_lay_111 : decode c_Mo_lay 111 = .ok (.getfield 33, 3) := by decide +kernel
theorem d_Mo_lay_114 : decode c_Mo_lay 114 = .ok (.aload_n 0, 1) := by decide +kernel
theorem d_Mo_lay_115 : decode c_Mo_lay 115 = .ok (.getfield 137, 3) := by decide +kernel
theorem d_Mo_lay_118 : decode c_Mo_lay 118 = .ok (.iconst 1, 1) := by decide +kernel
theorem d_Mo_lay_119 : decode c_Mo_lay 119 = .ok (.iadd, 1) := by decide +kernel
theorem d_Mo_lay_120 : decode c_Mo_lay 120 = .ok (.aload_n 0, 1) := by decide +kernel
theorem d_Mo_lay_121 : decode c_Mo_lay 121 = .ok (.getfield 30, 3) := by decide +kernel
theorem d_Mo_lay_124 : decode c_Mo_lay 124 = .ok (.iload_n 2, 1) := by decide +kernel
theorem d_Mo_lay_125 : decode c_Mo_lay 125 = .ok (.iconst 1, 1) := by decide +kernel
theorem d_Mo_lay_126 : decode c_Mo_lay 126 = .ok (.isub, 1) := by decide +kernel
theorem d_Mo_lay_127 : decode c_Mo_lay 127 = .ok (.iaload, 1) := by decide +kernel
theorem d_Mo_lay_128 : decode c_Mo_lay 128 = .ok (.iconst 1, 1) := by decide +kernel
theorem d_Mo_lay_129 : decode c_Mo_lay 129 = .ok (.isub, 1) := by decide +kernel
theorem d_Mo_lay_130 : decode c_Mo_lay 130 = .ok (.iastore, 1) := by decide +kernel
theorem d_Mo_lay_131 : decode c_Mo_lay 131 = .ok (.aload_n 0, 1) := by decide +kernel
theorem d_Mo_lay_132 : decode c_Mo_lay 132 = .ok (.dup, 1) := by decide +kernel
theorem d_Mo_lay_133 : decode c_Mo_lay 133 = .ok (.getfield 137, 3) := by decide +kernel
theorem d_Mo_lay_136 : decode c_Mo_lay 136 = .ok (.iconst 2, 1) := by decide +kernel
theorem d_Mo_lay_137 : decode c_Mo_lay 137 = .ok (.iadd, 1) := by decide +kernel
theorem d_Mo_lay_138 : decode c_Mo_lay 138 = .ok (.putfield 137, 3) := by decide +kernel
theorem d_Mo_lay_141 : decode c_Mo_lay 141 = .ok (.goto (-122), 3) := by decide +kernel
theorem d_Mo_lay_144 : decode c_Mo_lay 144 = .ok (.aload_n 0, 1) := by decide +kernel
theorem d_Mo_lay_145 : decode c_Mo_lay 145 = .ok (.getfield 39, 3) := by decide +kernel
theorem d_Mo_lay_148 : decode c_Mo_lay 148 = .ok (.bipush 10, 2) := by decide +kernel
theorem d_Mo_lay_150 : decode c_Mo_lay 150 = .ok (.iload_n 1, 1) := by decide +kernel
theorem d_Mo_lay_151 : decode c_Mo_lay 151 = .ok (.iastore, 1) := by decide +kernel
theorem d_Mo_lay_152 : decode c_Mo_lay 152 = .ok (.return_, 1) := by decide +kernel
theorem d_Mo_read_0 : decode c_Mo_read 0 = .ok (.aload_n 0, 1) := by decide +kernel
theorem d_Mo_read_1 : decode c_Mo_read 1 = .ok (.iconst 0, 1) := by decide +kernel
theorem d_Mo_read_2 : decode c_Mo_read 2 = .ok (.putfield 70, 3) := by decide +kernel
theorem d_Mo_read_5 : decode c_Mo_read 5 = .ok (.aload_n 0, 1) := by decide +kernel
theorem d_Mo_read_6 : decode c_Mo_read 6 = .ok (.iconst 0, 1) := by decide +kernel
theorem d_Mo_read_7 : decode c_Mo_read 7 = .ok (.putfield 101, 3) := by decide +kernel
theorem d_Mo_read_10 : decode c_Mo_read 10 = .ok (.aload_n 0, 1) := by decide +kernel
theorem d_Mo_read_11 : decode c_Mo_read 11 = .ok (.iconst 0, 1) := by decide +kernel
theorem d_Mo_read_12 : decode c_Mo_read 12 = .ok (.putfield 116, 3) := by decide +kernel
theorem d_Mo_read_15 : decode c_Mo_read 15 = .ok (.aload_n 0, 1) := by decide +kernel
theorem d_Mo_read_16 : decode c_Mo_read 16 = .ok (.iconst 0, 1) := by decide +kernel
theorem d_Mo_read_17 : decode c_Mo_read 17 = .ok (.putfield 137, 3) := by decide +kernel
theorem d_Mo_read_20 : decode c_Mo_read 20 = .ok (.aload_n 0, 1) := by decide +kernel
theorem d_Mo_read_21 : decode c_Mo_read 21 = .ok (.iconst 0, 1) := by decide +kernel
theorem d_Mo_read_22 : decode c_Mo_read 22 = .ok (.putfield 113, 3) := by decide +kernel
theorem d_Mo_read_25 : decode c_Mo_read 25 = .ok (.iload_n 1, 1) := by decide +kernel
theorem d_Mo_read_26 : decode c_Mo_read 26 = .ok (.ifCond .ne 10, 3) := by decide +kernel
theorem d_Mo_read_29 : decode c_Mo_read 29 = .ok (.aload_n 0, 1) := by decide +kernel
theorem d_Mo_read_30 : decode c_Mo_read 30 = .ok (.invokevirtual 163, 3) := by decide +kernel
theorem d_Mo_read_33 : decode c_Mo_read 33 = .ok (.goto 7, 3) := by decide +kernel
theorem d_Mo_read_36 : decode c_Mo_read 36 = .ok (.aload_n 0, 1) := by decide +kernel
theorem d_Mo_read_37 : decode c_Mo_read 37 = .ok (.invokevirtual 166, 3) := by decide +kernel
theorem d_Mo_read_40 : decode c_Mo_read 40 = .ok (.istore_n 2, 1) := by decide +kernel
theorem d_Mo_read_41 : decode c_Mo_read 41 = .ok (.aload_n 0, 1) := by decide +kernel
theorem d_Mo_read_42 : decode c_Mo_read 42 = .ok (.iconst 0, 1) := by decide +kernel
theorem d_Mo_read_43 : decode c_Mo_read 43 = .ok (.putfield 74, 3) := by decide +kernel
theorem d_Mo_read_46 : decode c_Mo_read 46 = .ok (.iload_n 2, 1) := by decide +kernel
theorem d_Mo_read_47 : decode c_Mo_read 47 = .ok (.ifCond .ne 10, 3) := by decide +kernel
theorem d_Mo_read_50 : decode c_Mo_read 50 = .ok (.iconst (-1), 1) := by decide +kernel
theorem d_Mo_read_51 : decode c_Mo_read 51 = .ok (.aload_n 0, 1) := by decide +kernel
theorem d_Mo_read_52 : decode c_Mo_read 52 = .ok (.getfield 98, 3) := by decide +kernel
theorem d_Mo_read_55 : decode c_Mo_read 55 = .ok (.isub, 1) := by decide +kernel
theorem d_Mo_read_56 : decode c_Mo_read 56 = .ok (.ireturn, 1) := by decide +kernel
theorem d_Mo_read_57 : decode c_Mo_read 57 = .ok (.aload_n 0, 1) := by decide +kernel
theorem d_Mo_read_58 : decode c_Mo_read 58 = .ok (.invokevirtual 169, 3) := by decide +kernel
theorem d_Mo_read_61 : decode c_Mo_read 61 = .ok (.aload_n 0, 1) := by decide +kernel
theorem d_Mo_read_62 : decode c_Mo_read 62 = .ok (.getfield 39, 3) := by decide +kernel
theorem d_Mo_read_65 : decode c_Mo_read 65 = .ok (.bipush 10, 2) := by decide +kernel
theorem d_Mo_read_67 : decode c_Mo_read 67 = .ok (.iaload, 1) := by decide +kernel
theorem d_Mo_read_68 : decode c_Mo_read 68 = .ok (.ireturn, 1) := by decide +kernel
theorem d_Mo_node_0 : decode c_Mo_node 0 = .ok (.aload_n 0, 1) := by decide +kernel
theorem d_Mo_node_1 : decode c_Mo_node 1 = .ok (.iconst 0, 1) := by decide +kernel
theorem d_Mo_node_2 : decode c_Mo_node 2 = .ok (.putfield 70, 3) := by decide +kernel
theorem d_Mo_node_5 : decode c_Mo_node 5 = .ok (.iload_n 1, 1) := by decide +kernel
theorem d_Mo_node_6 : decode c_Mo_node 6 = .ok (.ifCond .lt 23, 3) := by decide +kernel
theorem d_Mo_node_9 : decode c_Mo_node 9 = .ok (.iload_n 1, 1) := by decide +kernel
theorem d_Mo_node_10 : decode c_Mo_node 10 = .ok (.aload_n 0, 1) := by decide +kernel
theorem d_Mo_node_11 : decode c_Mo_node 11 = .ok (.getfield 39, 3) := by decide +kernel
theorem d_Mo_node_14 : decode c_Mo_node 14 = .ok (.bipush 10, 2) := by decide +kernel
theorem d_Mo_node_16 : decode c_Mo_node 16 = .ok (.iaload, 1) := by decide +kernel
theorem d_Mo_node_17 : decode c_Mo_node 17 = .ok (.if_icmp .ge 12, 3) := by decide +kernel
theorem d_Mo_node_20 : decode c_Mo_node 20 = .ok (.iload_n 2, 1) := by decide +kernel
theorem d_Mo_node_21 : decode c_Mo_node 21 = .ok (.ifCond .lt 8, 3) := by decide +kernel
theorem d_Mo_node_24 : decode c_Mo_node 24 = .ok (.iload_n 2, 1) := by decide +kernel
theorem d_Mo_node_25 : decode c_Mo_node 25 = .ok (.iconst 3, 1) := by decide +kernel
theorem d_Mo_node_26 : decode c_Mo_node 26 = .ok (.if_icmp .le 7, 3) := by decide +kernel
theorem d_Mo_node_29 : decode c_Mo_node 29 = .ok (.iconst (-1), 1) := by decide +kernel
theorem d_Mo_node_30 : decode c_Mo_node 30 = .ok (.goto 17, 3) := by decide +kernel
theorem d_Mo_node_33 : decode c_Mo_node 33 = .ok (.aload_n 0, 1) := by decide +kernel
theorem d_Mo_node_34 : decode c_Mo_node 34 = .ok (.getfield 36, 3) := by decide +kernel
theorem d_Mo_node_37 : decode c_Mo_node 37 = .ok (.sipush 1600, 3) := by decide +kernel
theorem d_Mo_node_40 : decode c_Mo_node 40 = .ok (.iconst 4, 1) := by decide +kernel
theorem d_Mo_node_41 : decode c_Mo_node 41 = .ok (.iload_n 1, 1) := by decide +kernel
theorem d_Mo_node_42 : decode c_Mo_node 42 = .ok (.imul, 1) := by decide +kernel
theorem d_Mo_node_43 : decode c_Mo_node 43 = .ok (.iadd, 1) := by decide +kernel
theorem d_Mo_node_44 : decode c_Mo_node 44 = .ok (.iload_n 2, 1) := by decide +kernel
theorem d_Mo_node_45 : decode c_Mo_node 45 = .ok (.iadd, 1) := by decide +kernel
theorem d_Mo_node_46 : decode c_Mo_node 46 = .ok (.iaload, 1) := by decide +kernel
theorem d_Mo_node_47 : decode c_Mo_node 47 = .ok (.ireturn, 1) := by decide +kernel
theorem d_Mo_distance_0 : decode c_Mo_distance 0 = .ok (.aload_n 0, 1) := by decide +kernel
theorem d_Mo_distance_1 : decode c_Mo_distance 1 = .ok (.getfield 16, 3) := by decide +kernel
theorem d_Mo_distance_4 : decode c_Mo_distance 4 = .ok (.iload_n 1, 1) := by decide +kernel
theorem d_Mo_distance_5 : decode c_Mo_distance 5 = .ok (.iaload, 1) := by decide +kernel
theorem d_Mo_distance_6 : decode c_Mo_distance 6 = .ok (.istore_n 2, 1) := by decide +kernel
theorem d_Mo_distance_7 : decode c_Mo_distance 7 = .ok (.iconst 0, 1) := by decide +kernel
theorem d_Mo_distance_8 : decode c_Mo_distance 8 = .ok (.istore_n 3, 1) := by decide +kernel
theorem d_Mo_distance_9 : decode c_Mo_distance 9 = .ok (.iload_n 3, 1) := by decide +kernel
theorem d_Mo_distance_10 : decode c_Mo_distance 10 = .ok (.iload_n 2, 1) := by decide +kernel
theorem d_Mo_distance_11 : decode c_Mo_distance 11 = .ok (.if_icmp .gt 16, 3) := by decide +kernel
theorem d_Mo_distance_14 : decode c_Mo_distance 14 = .ok (.aload_n 0, 1) := by decide +kernel
theorem d_Mo_distance_15 : decode c_Mo_distance 15 = .ok (.getfield 64, 3) := by decide +kernel
theorem d_Mo_distance_18 : decode c_Mo_distance 18 = .ok (.iload_n 3, 1) := by decide +kernel
theorem d_Mo_distance_19 : decode c_Mo_distance 19 = .ok (.iload_n 3, 1) := by decide +kernel
theorem d_Mo_distance_20 : decode c_Mo_distance 20 = .ok (.iastore, 1) := by decide +kernel
theorem d_Mo_distance_21 : decode c_Mo_distance 21 = .ok (.iinc 3 1, 3) := by decide +kernel
theorem d_Mo_distance_24 : decode c_Mo_distance 24 = .ok (.goto (-15), 3) := by decide +kernel
theorem d_Mo_distance_27 : decode c_Mo_distance 27 = .ok (.iconst 1, 1) := by decide +kernel
theorem d_Mo_distance_28 : decode c_Mo_distance 28 = .ok (.istore_n 3, 1) := by decide +kernel
theorem d_Mo_distance_29 : decode c_Mo_distance 29 = .ok (.iload_n 3, 1) := by decide +kernel
theorem d_Mo_distance_30 : decode c_Mo_distance 30 = .ok (.aload_n 0, 1) := by decide +kernel
theorem d_Mo_distance_31 : decode c_Mo_distance 31 = .ok (.getfield 113, 3) := by decide +kernel
theorem d_Mo_distance_34 : decode c_Mo_distance 34 = .ok (.if_icmp .gt 165, 3) := by decide +kernel
theorem d_Mo_distance_37 : decode c_Mo_distance 37 = .ok (.aload_n 0, 1) := by decide +kernel
theorem d_Mo_distance_38 : decode c_Mo_distance 38 = .ok (.getfield 67, 3) := by decide +kernel
theorem d_Mo_distance_41 : decode c_Mo_distance 41 = .ok (.iconst 0, 1) := by decide +kernel
theorem d_Mo_distance_42 : decode c_Mo_distance 42 = .ok (.iload_n 3, 1) := by decide +kernel
theorem d_Mo_distance_43 : decode c_Mo_distance 43 = .ok (.iastore, 1) := by decide +kernel
theorem d_Mo_distance_44 : decode c_Mo_distance 44 = .ok (.iconst 1, 1) := by decide +kernel
theorem d_Mo_distance_45 : decode c_Mo_distance 45 = .ok (.istore 4, 2) := by decide +kernel
theorem d_Mo_distance_47 : decode c_Mo_distance 47 = .ok (.iload 4, 2) := by decide +kernel
theorem d_Mo_distance_49 : decode c_Mo_distance 49 = .ok (.iload_n 2, 1) := by decide +kernel
theorem d_Mo_distance_50 : decode c_Mo_distance 50 = .ok (.if_icmp .gt 114, 3) := by decide +kernel
theorem d_Mo_distance_53 : decode c_Mo_distance 53 = .ok (.aload_n 0, 1) := by decide +kernel
theorem d_Mo_distance_54 : decode c_Mo_distance 54 = .ok (.getfield 64, 3) := by decide +kernel
theorem d_Mo_distance_57 : decode c_Mo_distance 57 = .ok (.iload 4, 2) := by decide +kernel
theorem d_Mo_distance_59 : decode c_Mo_distance 59 = .ok (.iconst 1, 1) := by decide +kernel
theorem d_Mo_distance_60 : decode c_Mo_distance 60 = .ok (.isub, 1) := by decide +kernel
theorem d_Mo_distance_61 : decode c_Mo_distance 61 = .ok (.iaload, 1) := by decide +kernel
theorem d_Mo_distance_62 : decode c_Mo_distance 62 = .ok (.aload_n 0, 1) := by decide +kernel
theorem d_Mo_distance_63 : decode c_Mo_distance 63 = .ok (.getfield 24, 3) := by decide +kernel
theorem d_Mo_distance_66 : decode c_Mo_distance 66 = .ok (.iload_n 3, 1) := by decide +kernel
theorem d_Mo_distance_67 : decode c_Mo_distance 67 = .ok (.iconst 1, 1) := by decide +kernel
theorem d_Mo_distance_68 : decode c_Mo_distance 68 = .ok (.isub, 1) := by decide +kernel
theorem d_Mo_distance_69 : decode c_Mo_distance 69 = .ok (.baload, 1) := by decide +kernel
theorem d_Mo_distance_70 : decode c_Mo_distance 70 = .ok (.aload_n 0, 1) := by decide +kernel
theorem d_Mo_distance_71 : decode c_Mo_distance 71 = .ok (.getfield 13, 3) := by decide +kernel
theorem d_Mo_distance_74 : decode c_Mo_distance 74 = .ok (.bipush 8, 2) := by decide +kernel
theorem d_Mo_distance_76 : decode c_Mo_distance 76 = .ok (.iload_n 1, 1) := by decide +kernel
theorem d_Mo_distance_77 : decode c_Mo_distance 77 = .ok (.imul, 1) := by decide +kernel
theorem d_Mo_distance_78 : decode c_Mo_distance 78 = .ok (.iload 4, 2) := by decide +kernel
theorem d_Mo_distance_80 : decode c_Mo_distance 80 = .ok (.iadd, 1) := by decide +kernel
theorem d_Mo_distance_81 : decode c_Mo_distance 81 = .ok (.iconst 1, 1) := by decide +kernel
theorem d_Mo_distance_82 : decode c_Mo_distance 82 = .ok (.isub, 1) := by decide +kernel
theorem d_Mo_distance_83 : decode c_Mo_distance 83 = .ok (.baload, 1) := by decide +kernel
theorem d_Mo_distance_84 : decode c_Mo_distance 84 = .ok (.if_icmp .ne 7, 3) := by decide +kernel
theorem d_Mo_distance_87 : decode c_Mo_distance 87 = .ok (.iconst 0, 1) := by decide +kernel
theorem d_Mo_distance_88 : decode c_Mo_distance 88 = .ok (.goto 4, 3) := by decide +kernel
theorem d_Mo_distance_91 : decode c_Mo_distance 91 = .ok (.iconst 1, 1) := by decide +kernel
theorem d_Mo_distance_92 : decode c_Mo_distance 92 = .ok (.iadd, 1) := by decide +kernel
theorem d_Mo_distance_93 : decode c_Mo_distance 93 = .ok (.istore 5, 2) := by decide +kernel
theorem d_Mo_distance_95 : decode c_Mo_distance 95 = .ok (.aload_n 0, 1) := by decide +kernel
theorem d_Mo_distance_96 : decode c_Mo_distance 96 = .ok (.getfield 64, 3) := by decide +kernel
theorem d_Mo_distance_99 : decode c_Mo_distance 99 = .ok (.iload 4, 2) := by decide +kernel
theorem d_Mo_distance_101 : decode c_Mo_distance 101 = .ok (.iaload, 1) := by decide +kernel
theorem d_Mo_distance_102 : decode c_Mo_distance 102 = .ok (.aload_n 0, 1) := by decide +kernel
theorem d_Mo_distance_103 : decode c_Mo_distance 103 = .ok (.getfield 67, 3) := by decide +kernel
theorem d_Mo_distance_106 : decode c_Mo_distance 106 = .ok (.iload 4, 2) := by decide +kernel
theorem d_Mo_distance_108 : decode c_Mo_distance 108 = .ok (.iconst 1, 1) := by decide +kernel
theorem d_Mo_distance_109 : decode c_Mo_distance 109 = .ok (.isub, 1) := by decide +kernel
theorem d_Mo_distance_110 : decode c_Mo_distance 110 = .ok (.iaload, 1) := by decide +kernel
theorem d_Mo_distance_111 : decode c_Mo_distance 111 = .ok (.if_icmp .ge 13, 3) := by decide +kernel
theorem d_Mo_distance_114 : decode c_Mo_distance 114 = .ok (.aload_n 0, 1) := by decide +kernel
theorem d_Mo_distance_115 : decode c_Mo_distance 115 = .ok (.getfield 64, 3) := by decide +kernel
theorem d_Mo_distance_118 : decode c_Mo_distance 118 = .ok (.iload 4, 2) := by decide +kernel
theorem d_Mo_distance_120 : decode c_Mo_distance 120 = .ok (.iaload, 1) := by decide +kernel
theorem d_Mo_distance_121 : decode c_Mo_distance 121 = .ok (.goto 12, 3) := by decide +kernel
theorem d_Mo_distance_124 : decode c_Mo_distance 124 = .ok (.aload_n 0, 1) := by decide +kernel
theorem d_Mo_distance_125 : decode c_Mo_distance 125 = .ok (.getfield 67, 3) := by decide +kernel
theorem d_Mo_distance_128 : decode c_Mo_distance 128 = .ok (.iload 4, 2) := by decide +kernel
theorem d_Mo_distance_130 : decode c_Mo_distance 130 = .ok (.iconst 1, 1) := by decide +kernel
theorem d_Mo_distance_131 : decode c_Mo_distance 131 = .ok (.isub, 1) := by decide +kernel
theorem d_Mo_distance_132 : decode c_Mo_distance 132 = .ok (.iaload, 1) := by decide +kernel
theorem d_Mo_distance_133 : decode c_Mo_distance 133 = .ok (.iconst 1, 1) := by decide +kernel
theorem d_Mo_distance_134 : decode c_Mo_distance 134 = .ok (.iadd, 1) := by decide +kernel
theorem d_Mo_distance_135 : decode c_Mo_distance 135 = .ok (.istore 6, 2) := by decide +kernel
theorem d_Mo_distance_137 : decode c_Mo_distance 137 = .ok (.aload_n 0, 1) := by decide +kernel
theorem d_Mo_distance_138 : decode c_Mo_distance 138 = .ok (.getfield 67, 3) := by decide +kernel
theorem d_Mo_distance_141 : decode c_Mo_distance 141 = .ok (.iload 4, 2) := by decide +kernel
theorem d_Mo_distance_143 : decode c_Mo_distance 143 = .ok (.iload 5, 2) := by decide +kernel
theorem d_Mo_distance_145 : decode c_Mo_distance 145 = .ok (.iload 6, 2) := by decide +kernel
theorem d_Mo_distance_147 : decode c_Mo_distance 147 = .ok (.if_icmp .ge 8, 3) := by decide +kernel
theorem d_Mo_distance_150 : decode c_Mo_distance 150 = .ok (.iload 5, 2) := by decide +kernel
theorem d_Mo_distance_152 : decode c_Mo_distance 152 = .ok (.goto 5, 3) := by decide +kernel
theorem d_Mo_distance_155 : decode c_Mo_distance 155 = .ok (.iload 6, 2) := by decide +kernel
theorem d_Mo_distance_157 : decode c_Mo_distance 157 = .ok (.iastore, 1) := by decide +kernel
theorem d_Mo_distance_158 : decode c_Mo_distance 158 = .ok (.iinc 4 1, 3) := by decide +kernel
theorem d_Mo_distance_161 : decode c_Mo_distance 161 = .ok (.goto (-114), 3) := by decide +kernel
theorem d_Mo_distance_164 : decode c_Mo_distance 164 = .ok (.iconst 0, 1) := by decide +kernel
theorem d_Mo_distance_165 : decode c_Mo_distance 165 = .ok (.istore 4, 2) := by decide +kernel
theorem d_Mo_distance_167 : decode c_Mo_distance 167 = .ok (.iload 4, 2) := by decide +kernel
theorem d_Mo_distance_169 : decode c_Mo_distance 169 = .ok (.iload_n 2, 1) := by decide +kernel
theorem d_Mo_distance_170 : decode c_Mo_distance 170 = .ok (.if_icmp .gt 23, 3) := by decide +kernel
theorem d_Mo_distance_173 : decode c_Mo_distance 173 = .ok (.aload_n 0, 1) := by decide +kernel
theorem d_Mo_distance_174 : decode c_Mo_distance 174 = .ok (.getfield 64, 3) := by decide +kernel
theorem d_Mo_distance_177 : decode c_Mo_distance 177 = .ok (.iload 4, 2) := by decide +kernel
theorem d_Mo_distance_179 : decode c_Mo_distance 179 = .ok (.aload_n 0, 1) := by decide +kernel
theorem d_Mo_distance_180 : decode c_Mo_distance 180 = .ok (.getfield 67, 3) := by decide +kernel
theorem d_Mo_distance_183 : decode c_Mo_distance 183 = .ok (.iload 4, 2) := by decide +kernel
theorem d_Mo_distance_185 : decode c_Mo_distance 185 = .ok (.iaload, 1) := by decide +kernel
theorem d_Mo_distance_186 : decode c_Mo_distance 186 = .ok (.iastore, 1) := by decide +kernel
theorem d_Mo_distance_187 : decode c_Mo_distance 187 = .ok (.iinc 4 1, 3) := by decide +kernel
theorem d_Mo_distance_190 : decode c_Mo_distance 190 = .ok (.goto (-23), 3) := by decide +kernel
theorem d_Mo_distance_193 : decode c_Mo_distance 193 = .ok (.iinc 3 1, 3) := by decide +kernel
theorem d_Mo_distance_196 : decode c_Mo_distance 196 = .ok (.goto (-167), 3) := by decide +kernel
theorem d_Mo_distance_199 : decode c_Mo_distance 199 = .ok (.aload_n 0, 1) := by decide +kernel
theorem d_Mo_distance_200 : decode c_Mo_distance 200 = .ok (.getfield 64, 3) := by decide +kernel
theorem d_Mo_distance_203 : decode c_Mo_distance 203 = .ok (.iload_n 2, 1) := by decide +kernel
theorem d_Mo_distance_204 : decode c_Mo_distance 204 = .ok (.iaload, 1) := by decide +kernel
theorem d_Mo_distance_205 : decode c_Mo_distance 205 = .ok (.ireturn, 1) := by decide +kernel
theorem d_Mo_near_0 : decode c_Mo_near 0 = .ok (.aload_n 0, 1) := by decide +kernel
theorem d_Mo_near_1 : decode c_Mo_near 1 = .ok (.iconst 0, 1) := by decide +kernel
theorem d_Mo_near_2 : decode c_Mo_near 2 = .ok (.putfield 70, 3) := by decide +kernel
theorem d_Mo_near_5 : decode c_Mo_near 5 = .ok (.iconst (-1), 1) := by decide +kernel
theorem d_Mo_near_6 : decode c_Mo_near 6 = .ok (.istore_n 1, 1) := by decide +kernel
theorem d_Mo_near_7 : decode c_Mo_near 7 = .ok (.sipush 1000, 3) := by decide +kernel
theorem d_Mo_near_10 : decode c_Mo_near 10 = .ok (.istore_n 2, 1) := by decide +kernel
theorem d_Mo_near_11 : decode c_Mo_near 11 = .ok (.iconst 0, 1) := by decide +kernel
theorem d_Mo_near_12 : decode c_Mo_near 12 = .ok (.istore_n 3, 1) := by decide +kernel
theorem d_Mo_near_13 : decode c_Mo_near 13 = .ok (.iload_n 3, 1) := by decide +kernel
theorem d_Mo_near_14 : decode c_Mo_near 14 = .ok (.aload_n 0, 1) := by decide +kernel
theorem d_Mo_near_15 : decode c_Mo_near 15 = .ok (.getfield 85, 3) := by decide +kernel
theorem d_Mo_near_18 : decode c_Mo_near 18 = .ok (.if_icmp .ge 48, 3) := by decide +kernel
theorem d_Mo_near_21 : decode c_Mo_near 21 = .ok (.aload_n 0, 1) := by decide +kernel
theorem d_Mo_near_22 : decode c_Mo_near 22 = .ok (.getfield 113, 3) := by decide +kernel
theorem d_Mo_near_25 : decode c_Mo_near 25 = .ok (.ifCond .le 41, 3) := by decide +kernel
theorem d_Mo_near_28 : decode c_Mo_near 28 = .ok (.aload_n 0, 1) := by decide +kernel
theorem d_Mo_near_29 : decode c_Mo_near 29 = .ok (.iload_n 3, 1) := by decide +kernel
theorem d_Mo_near_30 : decode c_Mo_near 30 = .ok (.invokevirtual 172, 3) := by decide +kernel
theorem d_Mo_near_33 : decode c_Mo_near 33 = .ok (.istore 4, 2) := by decide +kernel
theorem d_Mo_near_35 : decode c_Mo_near 35 = .ok (.iload 4, 2) := by decide +kernel
theorem d_Mo_near_37 : decode c_Mo_near 37 = .ok (.iload_n 2, 1) := by decide +kernel
theorem d_Mo_near_38 : decode c_Mo_near 38 = .ok (.if_icmp .ge 7, 3) := by decide +kernel
theorem d_Mo_near_41 : decode c_Mo_near 41 = .ok (.iload_n 3, 1) := by decide +kernel
theorem d_Mo_near_42 : decode c_Mo_near 42 = .ok (.goto 4, 3) := by decide +kernel
theorem d_Mo_near_45 : decode c_Mo_near 45 = .ok (.iload_n 1, 1) := by decide +kernel
theorem d_Mo_near_46 : decode c_Mo_near 46 = .ok (.istore_n 1, 1) := by decide +kernel
theorem d_Mo_near_47 : decode c_Mo_near 47 = .ok (.iload 4, 2) := by decide +kernel
theorem d_Mo_near_49 : decode c_Mo_near 49 = .ok (.iload_n 2, 1) := by decide +kernel
theorem d_Mo_near_50 : decode c_Mo_near 50 = .ok (.if_icmp .ge 8, 3) := by decide +kernel
theorem d_Mo_near_53 : decode c_Mo_near 53 = .ok (.iload 4, 2) := by decide +kernel
theorem d_Mo_near_55 : decode c_Mo_near 55 = .ok (.goto 4, 3) := by decide +kernel
theorem d_Mo_near_58 : decode c_Mo_near 58 = .ok (.iload_n 2, 1) := by decide +kernel
theorem d_Mo_near_59 : decode c_Mo_near 59 = .ok (.istore_n 2, 1) := by decide +kernel
theorem d_Mo_near_60 : decode c_Mo_near 60 = .ok (.iinc 3 1, 3) := by decide +kernel
theorem d_Mo_near_63 : decode c_Mo_near 63 = .ok (.goto (-50), 3) := by decide +kernel
theorem d_Mo_near_66 : decode c_Mo_near 66 = .ok (.iload_n 1, 1) := by decide +kernel
theorem d_Mo_near_67 : decode c_Mo_near 67 = .ok (.ireturn, 1) := by decide +kernel
theorem d_Mo_record_0 : decode c_Mo_record 0 = .ok (.aload_n 0, 1) := by decide +kernel
theorem d_Mo_record_1 : decode c_Mo_record 1 = .ok (.iconst 0, 1) := by decide +kernel
theorem d_Mo_record_2 : decode c_Mo_record 2 = .ok (.putfield 70, 3) := by decide +kernel
theorem d_Mo_record_5 : decode c_Mo_record 5 = .ok (.aload_n 0, 1) := by decide +kernel
theorem d_Mo_record_6 : decode c_Mo_record 6 = .ok (.getfield 175, 3) := by decide +kernel
theorem d_Mo_record_9 : decode c_Mo_record 9 = .ok (.bipush 60, 2) := by decide +kernel
theorem d_Mo_record_11 : decode c_Mo_record 11 = .ok (.if_icmp .eq 24, 3) := by decide +kernel
theorem d_Mo_record_14 : decode c_Mo_record 14 = .ok (.aload_n 0, 1) := by decide +kernel
theorem d_Mo_record_15 : decode c_Mo_record 15 = .ok (.getfield 175, 3) := by decide +kernel
theorem d_Mo_record_18 : decode c_Mo_record 18 = .ok (.ifCond .le 19, 3) := by decide +kernel
theorem d_Mo_record_21 : decode c_Mo_record 21 = .ok (.lload_n 1, 1) := by decide +kernel
theorem d_Mo_record_22 : decode c_Mo_record 22 = .ok (.aload_n 0, 1) := by decide +kernel
theorem d_Mo_record_23 : decode c_Mo_record 23 = .ok (.getfield 49, 3) := by decide +kernel
theorem d_Mo_record_26 : decode c_Mo_record 26 = .ok (.aload_n 0, 1) := by decide +kernel
theorem d_Mo_record_27 : decode c_Mo_record 27 = .ok (.getfield 175, 3) := by decide +kernel
theorem d_Mo_record_30 : decode c_Mo_record 30 = .ok (.laload, 1) := by decide +kernel
theorem d_Mo_record_31 : decode c_Mo_record 31 = .ok (.lcmp, 1) := by decide +kernel
theorem d_Mo_record_32 : decode c_Mo_record 32 = .ok (.ifCond .ge 5, 3) := by decide +kernel
theorem d_Mo_record_35 : decode c_Mo_record 35 = .ok (.iconst 0, 1) := by decide +kernel
theorem d_Mo_record_36 : decode c_Mo_record 36 = .ok (.ireturn, 1) := by decide +kernel
theorem d_Mo_record_37 : decode c_Mo_record 37 = .ok (.aload_n 0, 1) := by decide +kernel
theorem d_Mo_record_38 : decode c_Mo_record 38 = .ok (.dup, 1) := by decide +kernel
theorem d_Mo_record_39 : decode c_Mo_record 39 = .ok (.getfield 175, 3) := by decide +kernel
theorem d_Mo_record_42 : decode c_Mo_record 42 = .ok (.iconst 1, 1) := by decide +kernel
theorem d_Mo_record_43 : decode c_Mo_record 43 = .ok (.iadd, 1) := by decide +kernel
theorem d_Mo_record_44 : decode c_Mo_record 44 = .ok (.putfield 175, 3) := by decide +kernel
theorem d_Mo_record_47 : decode c_Mo_record 47 = .ok (.aload_n 0, 1) := by decide +kernel
theorem d_Mo_record_48 : decode c_Mo_record 48 = .ok (.getfield 49, 3) := by decide +kernel
theorem d_Mo_record_51 : decode c_Mo_record 51 = .ok (.aload_n 0, 1) := by decide +kernel
theorem d_Mo_record_52 : decode c_Mo_record 52 = .ok (.getfield 175, 3) := by decide +kernel
theorem d_Mo_record_55 : decode c_Mo_record 55 = .ok (.lload_n 1, 1) := by decide +kernel
theorem d_Mo_record_56 : decode c_Mo_record 56 = .ok (.lastore, 1) := by decide +kernel
theorem d_Mo_record_57 : decode c_Mo_record 57 = .ok (.aload_n 0, 1) := by decide +kernel
theorem d_Mo_record_58 : decode c_Mo_record 58 = .ok (.getfield 175, 3) := by decide +kernel
theorem d_Mo_record_61 : decode c_Mo_record 61 = .ok (.ireturn, 1) := by decide +kernel
theorem d_Mo_entry_0 : decode c_Mo_entry 0 = .ok (.aload_n 0, 1) := by decide +kernel
theorem d_Mo_entry_1 : decode c_Mo_entry 1 = .ok (.iconst 0, 1) := by decide +kernel
theorem d_Mo_entry_2 : decode c_Mo_entry 2 = .ok (.putfield 70, 3) := by decide +kernel
theorem d_Mo_entry_5 : decode c_Mo_entry 5 = .ok (.iload_n 1, 1) := by decide +kernel
theorem d_Mo_entry_6 : decode c_Mo_entry 6 = .ok (.iconst 1, 1) := by decide +kernel
theorem d_Mo_entry_7 : decode c_Mo_entry 7 = .ok (.if_icmp .lt 44, 3) := by decide +kernel
theorem d_Mo_entry_10 : decode c_Mo_entry 10 = .ok (.iload_n 1, 1) := by decide +kernel
theorem d_Mo_entry_11 : decode c_Mo_entry 11 = .ok (.aload_n 0, 1) := by decide +kernel
theorem d_Mo_entry_12 : decode c_Mo_entry 12 = .ok (.getfield 175, 3) := by decide +kernel
theorem d_Mo_entry_15 : decode c_Mo_entry 15 = .ok (.if_icmp .gt 36, 3) := by decide +kernel
theorem d_Mo_entry_18 : decode c_Mo_entry 18 = .ok (.iload_n 2, 1) := by decide +kernel
theorem d_Mo_entry_19 : decode c_Mo_entry 19 = .ok (.ifCond .lt 32, 3) := by decide +kernel
theorem d_Mo_entry_22 : decode c_Mo_entry 22 = .ok (.iload_n 2, 1) := by decide +kernel
theorem d_Mo_entry_23 : decode c_Mo_entry 23 = .ok (.aload_n 0, 1) := by decide +kernel
theorem d_Mo_entry_24 : decode c_Mo_entry 24 = .ok (.getfield 85, 3) := by decide +kernel
theorem d_Mo_entry_27 : decode c_Mo_entry 27 = .ok (.if_icmp .ge 24, 3) := by decide +kernel
theorem d_Mo_entry_30 : decode c_Mo_entry 30 = .ok (.iload_n 3, 1) := by decide +kernel
theorem d_Mo_entry_31 : decode c_Mo_entry 31 = .ok (.ifCond .lt 20, 3) := by decide +kernel
theorem d_Mo_entry_34 : decode c_Mo_entry 34 = .ok (.iload_n 3, 1) := by decide +kernel
theorem d_Mo_entry_35 : decode c_Mo_entry 35 = .ok (.ldc 178, 2) := by decide +kernel
theorem d_Mo_entry_37 : decode c_Mo_entry 37 = .ok (.if_icmp .gt 14, 3) := by decide +kernel
theorem d_Mo_entry_40 : decode c_Mo_entry 40 = .ok (.aload_n 0, 1) := by decide +kernel
theorem d_Mo_entry_41 : decode c_Mo_entry 41 = .ok (.getfield 55, 3) := by decide +kernel
theorem d_Mo_entry_44 : decode c_Mo_entry 44 = .ok (.iload_n 1, 1) := by decide +kernel
theorem d_Mo_entry_45 : decode c_Mo_entry 45 = .ok (.iaload, 1) := by decide +kernel
theorem d_Mo_entry_46 : decode c_Mo_entry 46 = .ok (.bipush 8, 2) := by decide +kernel
theorem d_Mo_entry_48 : decode c_Mo_entry 48 = .ok (.if_icmp .ne 5, 3) := by decide +kernel
theorem d_Mo_entry_51 : decode c_Mo_entry 51 = .ok (.iconst 0, 1) := by decide +kernel
theorem d_Mo_entry_52 : decode c_Mo_entry 52 = .ok (.ireturn, 1) := by decide +kernel
theorem d_Mo_entry_53 : decode c_Mo_entry 53 = .ok (.bipush 16, 2) := by decide +kernel
theorem d_Mo_entry_55 : decode c_Mo_entry 55 = .ok (.iload_n 1, 1) := by decide +kernel
theorem d_Mo_entry_56 : decode c_Mo_entry 56 = .ok (.imul, 1) := by decide +kernel
theorem d_Mo_entry_57 : decode c_Mo_entry 57 = .ok (.iconst 2, 1) := by decide +kernel
theorem d_Mo_entry_58 : decode c_Mo_entry 58 = .ok (.aload_n 0, 1) := by decide +kernel
theorem d_Mo_entry_59 : decode c_Mo_entry 59 = .ok (.getfield 55, 3) := by decide +kernel
theorem d_Mo_entry_62 : decode c_Mo_entry 62 = .ok (.iload_n 1, 1) := by decide +kernel
theorem d_Mo_entry_63 : decode c_Mo_entry 63 = .ok (.iaload, 1) := by decide +kernel
theorem d_Mo_entry_64 : decode c_Mo_entry 64 = .ok (.imul, 1) := by decide +kernel
theorem d_Mo_entry_65 : decode c_Mo_entry 65 = .ok (.iadd, 1) := by decide +kernel
theorem d_Mo_entry_66 : decode c_Mo_entry 66 = .ok (.istore 4, 2) := by decide +kernel
theorem d_Mo_entry_68 : decode c_Mo_entry 68 = .ok (.aload_n 0, 1) := by decide +kernel
theorem d_Mo_entry_69 : decode c_Mo_entry 69 = .ok (.getfield 52, 3) := by decide +kernel
theorem d_Mo_entry_72 : decode c_Mo_entry 72 = .ok (.iload 4, 2) := by decide +kernel
theorem d_Mo_entry_74 : decode c_Mo_entry 74 = .ok (.iload_n 2, 1) := by decide +kernel
theorem d_Mo_entry_75 : decode c_Mo_entry 75 = .ok (.iastore, 1) := by decide +kernel
theorem d_Mo_entry_76 : decode c_Mo_entry 76 = .ok (.aload_n 0, 1) := by decide +kernel
theorem d_Mo_entry_77 : decode c_Mo_entry 77 = .ok (.getfield 52, 3) := by decide +kernel
theorem d_Mo_entry_80 : decode c_Mo_entry 80 = .ok (.iload 4, 2) := by decide +kernel
theorem d_Mo_entry_82 : decode c_Mo_entry 82 = .ok (.iconst 1, 1) := by decide +kernel
theorem d_Mo_entry_83 : decode c_Mo_entry 83 = .ok (.iadd, 1) := by decide +kernel
theorem d_Mo_entry_84 : decode c_Mo_entry 84 = .ok (.iload_n 3, 1) := by decide +kernel
theorem d_Mo_entry_85 : decode c_Mo_entry 85 = .ok (.iastore, 1) := by decide +kernel
theorem d_Mo_entry_86 : decode c_Mo_entry 86 = .ok (.aload_n 0, 1) := by decide +kernel
theorem d_Mo_entry_87 : decode c_Mo_entry 87 = .ok (.getfield 55, 3) := by decide +kernel
theorem d_Mo_entry_90 : decode c_Mo_entry 90 = .ok (.iload_n 1, 1) := by decide +kernel
theorem d_Mo_entry_91 : decode c_Mo_entry 91 = .ok (.dup2, 1) := by decide +kernel
theorem d_Mo_entry_92 : decode c_Mo_entry 92 = .ok (.iaload, 1) := by decide +kernel
theorem d_Mo_entry_93 : decode c_Mo_entry 93 = .ok (.iconst 1, 1) := by decide +kernel
theorem d_Mo_entry_94 : decode c_Mo_entry 94 = .ok (.iadd, 1) := by decide +kernel
theorem d_Mo_entry_95 : decode c_Mo_entry 95 = .ok (.iastore, 1) := by decide +kernel
theorem d_Mo_entry_96 : decode c_Mo_entry 96 = .ok (.aload_n 0, 1) := by decide +kernel
theorem d_Mo_entry_97 : decode c_Mo_entry 97 = .ok (.getfield 55, 3) := by decide +kernel
theorem d_Mo_entry_100 : decode c_Mo_entry 100 = .ok (.iload_n 1, 1) := by decide +kernel
theorem d_Mo_entry_101 : decode c_Mo_entry 101 = .ok (.iaload, 1) := by decide +kernel
theorem d_Mo_entry_102 : decode c_Mo_entry 102 = .ok (.ireturn, 1) := by decide +kernel
theorem d_Mo_beginsWith_0 : decode c_Mo_beginsWith 0 = .ok (.iload_n 0, 1) := by decide +kernel
theorem d_Mo_beginsWith_1 : decode c_Mo_beginsWith 1 = .ok (.istore_n 2, 1) := by decide +kernel
theorem d_Mo_beginsWith_2 : decode c_Mo_beginsWith 2 = .ok (.iload_n 2, 1) := by decide +kernel
theorem d_Mo_beginsWith_3 : decode c_Mo_beginsWith 3 = .ok (.iload_n 1, 1) := by decide +kernel
theorem d_Mo_beginsWith_4 : decode c_Mo_beginsWith 4 = .ok (.if_icmp .le 17, 3) := by decide +kernel
theorem d_Mo_beginsWith_7 : decode c_Mo_beginsWith 7 = .ok (.iload_n 2, 1) := by decide +kernel
theorem d_Mo_beginsWith_8 : decode c_Mo_beginsWith 8 = .ok (.bipush 9, 2) := by decide +kernel
theorem d_Mo_beginsWith_10 : decode c_Mo_beginsWith 10 = .ok (.if_icmp .le 11, 3) := by decide +kernel
theorem d_Mo_beginsWith_13 : decode c_Mo_beginsWith 13 = .ok (.iload_n 2, 1) := by decide +kernel
theorem d_Mo_beginsWith_14 : decode c_Mo_beginsWith 14 = .ok (.bipush 10, 2) := by decide +kernel
theorem d_Mo_beginsWith_16 : decode c_Mo_beginsWith 16 = .ok (.idiv, 1) := by decide +kernel
theorem d_Mo_beginsWith_17 : decode c_Mo_beginsWith 17 = .ok (.istore_n 2, 1) := by decide +kernel
theorem d_Mo_beginsWith_18 : decode c_Mo_beginsWith 18 = .ok (.goto (-16), 3) := by decide +kernel
theorem d_Mo_beginsWith_21 : decode c_Mo_beginsWith 21 = .ok (.iload_n 2, 1) := by decide +kernel
theorem d_Mo_beginsWith_22 : decode c_Mo_beginsWith 22 = .ok (.iload_n 1, 1) := by decide +kernel
theorem d_Mo_beginsWith_23 : decode c_Mo_beginsWith 23 = .ok (.if_icmp .ne 7, 3) := by decide +kernel
theorem d_Mo_beginsWith_26 : decode c_Mo_beginsWith 26 = .ok (.iconst 1, 1) := by decide +kernel
theorem d_Mo_beginsWith_27 : decode c_Mo_beginsWith 27 = .ok (.goto 4, 3) := by decide +kernel
theorem d_Mo_beginsWith_30 : decode c_Mo_beginsWith 30 = .ok (.iconst 0, 1) := by decide +kernel
theorem d_Mo_beginsWith_31 : decode c_Mo_beginsWith 31 = .ok (.ireturn, 1) := by decide +kernel
theorem d_Mo_has_0 : decode c_Mo_has 0 = .ok (.iconst 0, 1) := by decide +kernel
theorem d_Mo_has_1 : decode c_Mo_has 1 = .ok (.istore_n 3, 1) := by decide +kernel
theorem d_Mo_has_2 : decode c_Mo_has 2 = .ok (.iconst 0, 1) := by decide +kernel
theorem d_Mo_has_3 : decode c_Mo_has 3 = .ok (.istore 4, 2) := by decide +kernel
theorem d_Mo_has_5 : decode c_Mo_has 5 = .ok (.iload 4, 2) := by decide +kernel
theorem d_Mo_has_7 : decode c_Mo_has 7 = .ok (.aload_n 0, 1) := by decide +kernel
theorem d_Mo_has_8 : decode c_Mo_has 8 = .ok (.getfield 55, 3) := by decide +kernel
theorem d_Mo_has_11 : decode c_Mo_has 11 = .ok (.iload_n 1, 1) := by decide +kernel
theorem d_Mo_has_12 : decode c_Mo_has 12 = .ok (.iaload, 1) := by decide +kernel
theorem d_Mo_has_13 : decode c_Mo_has 13 = .ok (.if_icmp .ge 148, 3) := by decide +kernel
theorem d_Mo_has_16 : decode c_Mo_has 16 = .ok (.aload_n 0, 1) := by decide +kernel
theorem d_Mo_has_17 : decode c_Mo_has 17 = .ok (.getfield 52, 3) := by decide +kernel
theorem d_Mo_has_20 : decode c_Mo_has 20 = .ok (.bipush 16, 2) := by decide +kernel
theorem d_Mo_has_22 : decode c_Mo_has 22 = .ok (.iload_n 1, 1) := by decide +kernel
theorem d_Mo_has_23 : decode c_Mo_has 23 = .ok (.imul, 1) := by decide +kernel
theorem d_Mo_has_24 : decode c_Mo_has 24 = .ok (.iconst 2, 1) := by decide +kernel
theorem d_Mo_has_25 : decode c_Mo_has 25 = .ok (.iload 4, 2) := by decide +kernel
theorem d_Mo_has_27 : decode c_Mo_has 27 = .ok (.imul, 1) := by decide +kernel
theorem d_Mo_has_28 : decode c_Mo_has 28 = .ok (.iadd, 1) := by decide +kernel
theorem d_Mo_has_29 : decode c_Mo_has 29 = .ok (.iconst 1, 1) := by decide +kernel
theorem d_Mo_has_30 : decode c_Mo_has 30 = .ok (.iadd, 1) := by decide +kernel
theorem d_Mo_has_31 : decode c_Mo_has 31 = .ok (.iaload, 1) := by decide +kernel
theorem d_Mo_has_32 : decode c_Mo_has 32 = .ok (.istore 5, 2) := by decide +kernel
theorem d_Mo_has_34 : decode c_Mo_has 34 = .ok (.aload_n 0, 1) := by decide +kernel
theorem d_Mo_has_35 : decode c_Mo_has 35 = .ok (.getfield 36, 3) := by decide +kernel
theorem d_Mo_has_38 : decode c_Mo_has 38 = .ok (.iload_n 2, 1) := by decide +kernel
theorem d_Mo_has_39 : decode c_Mo_has 39 = .ok (.iconst 2, 1) := by decide +kernel
theorem d_Mo_has_40 : decode c_Mo_has 40 = .ok (.iadd, 1) := by decide +kernel
theorem d_Mo_has_41 : decode c_Mo_has 41 = .ok (.iaload, 1) := by decide +kernel
theorem d_Mo_has_42 : decode c_Mo_has 42 = .ok (.istore 6, 2) := by decide +kernel
theorem d_Mo_has_44 : decode c_Mo_has 44 = .ok (.aload_n 0, 1) := by decide +kernel
theorem d_Mo_has_45 : decode c_Mo_has 45 = .ok (.getfield 36, 3) := by decide +kernel
theorem d_Mo_has_48 : decode c_Mo_has 48 = .ok (.iload_n 2, 1) := by decide +kernel
theorem d_Mo_has_49 : decode c_Mo_has 49 = .ok (.iaload, 1) := by decide +kernel
theorem d_Mo_has_50 : decode c_Mo_has 50 = .ok (.ifCond .ne 18, 3) := by decide +kernel
theorem d_Mo_has_53 : decode c_Mo_has 53 = .ok (.iload 5, 2) := by decide +kernel
theorem d_Mo_has_55 : decode c_Mo_has 55 = .ok (.iload 6, 2) := by decide +kernel
theorem d_Mo_has_57 : decode c_Mo_has 57 = .ok (.if_icmp .ne 7, 3) := by decide +kernel
theorem d_Mo_has_60 : decode c_Mo_has 60 = .ok (.iconst 1, 1) := by decide +kernel
theorem d_Mo_has_61 : decode c_Mo_has 61 = .ok (.goto 52, 3) := by decide +kernel
theorem d_Mo_has_64 : decode c_Mo_has 64 = .ok (.iconst 0, 1) := by decide +kernel
theorem d_Mo_has_65 : decode c_Mo_has 65 = .ok (.goto 48, 3) := by decide +kernel
theorem d_Mo_has_68 : decode c_Mo_has 68 = .ok (.aload_n 0, 1) := by decide +kernel
theorem d_Mo_has_69 : decode c_Mo_has 69 = .ok (.getfield 36, 3) := by decide +kernel
theorem d_Mo_has_72 : decode c_Mo_has 72 = .ok (.iload_n 2, 1) := by decide +kernel
theorem d_Mo_has_73 : decode c_Mo_has 73 = .ok (.iaload, 1) := by decide +kernel
theorem d_Mo_has_74 : decode c_Mo_has 74 = .ok (.iconst 1, 1) := by decide +kernel
theorem d_Mo_has_75 : decode c_Mo_has 75 = .ok (.if_icmp .ne 31, 3) := by decide +kernel
theorem d_Mo_has_78 : decode c_Mo_has 78 = .ok (.iload 5, 2) := by decide +kernel
theorem d_Mo_has_80 : decode c_Mo_has 80 = .ok (.iload 6, 2) := by decide +kernel
theorem d_Mo_has_82 : decode c_Mo_has 82 = .ok (.if_icmp .lt 20, 3) := by decide +kernel
theorem d_Mo_has_85 : decode c_Mo_has 85 = .ok (.iload 5, 2) := by decide +kernel
theorem d_Mo_has_87 : decode c_Mo_has 87 = .ok (.aload_n 0, 1) := by decide +kernel
theorem d_Mo_has_88 : decode c_Mo_has 88 = .ok (.getfield 36, 3) := by decide +kernel
theorem d_Mo_has_91 : decode c_Mo_has 91 = .ok (.iload_n 2, 1) := by decide +kernel
theorem d_Mo_has_92 : decode c_Mo_has 92 = .ok (.iconst 3, 1) := by decide +kernel
theorem d_Mo_has_93 : decode c_Mo_has 93 = .ok (.iadd, 1) := by decide +kernel
theorem d_Mo_has_94 : decode c_Mo_has 94 = .ok (.iaload, 1) := by decide +kernel
theorem d_Mo_has_95 : decode c_Mo_has 95 = .ok (.if_icmp .gt 7, 3) := by decide +kernel
theorem d_Mo_has_98 : decode c_Mo_has 98 = .ok (.iconst 1, 1) := by decide +kernel
theorem d_Mo_has_99 : decode c_Mo_has 99 = .ok (.goto 14, 3) := by decide +kernel
theorem d_Mo_has_102 : decode c_Mo_has 102 = .ok (.iconst 0, 1) := by decide +kernel
theorem d_Mo_has_103 : decode c_Mo_has 103 = .ok (.goto 10, 3) := by decide +kernel
theorem d_Mo_has_106 : decode c_Mo_has 106 = .ok (.iload 5, 2) := by decide +kernel
theorem d_Mo_has_108 : decode c_Mo_has 108 = .ok (.iload 6, 2) := by decide +kernel
theorem d_Mo_has_110 : decode c_Mo_has 110 = .ok (.invokestatic 179, 3) := by decide +kernel
theorem d_Mo_has_113 : decode c_Mo_has 113 = .ok (.istore 7, 2) := by decide +kernel
theorem d_Mo_has_115 : decode c_Mo_has 115 = .ok (.iload_n 3, 1) := by decide +kernel
theorem d_Mo_has_116 : decode c_Mo_has 116 = .ok (.ifCond .ne 33, 3) := by decide +kernel
theorem d_Mo_has_119 : decode c_Mo_has 119 = .ok (.aload_n 0, 1) := by decide +kernel
theorem d_Mo_has_120 : decode c_Mo_has 120 = .ok (.getfield 52, 3) := by decide +kernel
theorem d_Mo_has_123 : decode c_Mo_has 123 = .ok (.bipush 16, 2) := by decide +kernel
theorem d_Mo_has_125 : decode c_Mo_has 125 = .ok (.iload_n 1, 1) := by decide +kernel
theorem d_Mo_has_126 : decode c_Mo_has 126 = .ok (.imul, 1) := by decide +kernel
theorem d_Mo_has_127 : decode c_Mo_has 127 = .ok (.iconst 2, 1) := by decide +kernel
theorem d_Mo_has_128 : decode c_Mo_has 128 = .ok (.iload 4, 2) := by decide +kernel
theorem d_Mo_has_130 : decode c_Mo_has 130 = .ok (.imul, 1) := by decide +kernel
theorem d_Mo_has_131 : decode c_Mo_has 131 = .ok (.iadd, 1) := by decide +kernel
theorem d_Mo_has_132 : decode c_Mo_has 132 = .ok (.iaload, 1) := by decide +kernel
theorem d_Mo_has_133 : decode c_Mo_has 133 = .ok (.aload_n 0, 1) := by decide +kernel
theorem d_Mo_has_134 : decode c_Mo_has 134 = .ok (.getfield 36, 3) := by decide +kernel
theorem d_Mo_has_137 : decode c_Mo_has 137 = .ok (.iload_n 2, 1) := by decide +kernel
theorem d_Mo_has_138 : decode c_Mo_has 138 = .ok (.iconst 1, 1) := by decide +kernel
theorem d_Mo_has_139 : decode c_Mo_has 139 = .ok (.iadd, 1) := by decide +kernel
theorem d_Mo_has_140 : decode c_Mo_has 140 = .ok (.iaload, 1) := by decide +kernel
theorem d_Mo_has_141 : decode c_Mo_has 141 = .ok (.if_icmp .ne 12, 3) := by decide +kernel
theorem d_Mo_has_144 : decode c_Mo_has 144 = .ok (.iload 7, 2) := by decide +kernel
theorem d_Mo_has_146 : decode c_Mo_has 146 = .ok (.ifCond .eq 7, 3) := by decide +kernel
theorem d_Mo_has_149 : decode c_Mo_has 149 = .ok (.iconst 1, 1) := by decide +kernel
theorem d_Mo_has_150 : decode c_Mo_has 150 = .ok (.goto 4, 3) := by decide +kernel
theorem d_Mo_has_153 : decode c_Mo_has 153 = .ok (.iconst 0, 1) := by decide +kernel
theorem d_Mo_has_154 : decode c_Mo_has 154 = .ok (.istore_n 3, 1) := by decide +kernel
theorem d_Mo_has_155 : decode c_Mo_has 155 = .ok (.iinc 4 1, 3) := by decide +kernel
theorem d_Mo_has_158 : decode c_Mo_has 158 = .ok (.goto (-153), 3) := by decide +kernel
theorem d_Mo_has_161 : decode c_Mo_has 161 = .ok (.iload_n 3, 1) := by decide +kernel
theorem d_Mo_has_162 : decode c_Mo_has 162 = .ok (.ireturn, 1) := by decide +kernel
theorem d_Mo_meetsAll_0 : decode c_Mo_meetsAll 0 = .ok (.iconst 0, 1) := by decide +kernel
theorem d_Mo_meetsAll_1 : decode c_Mo_meetsAll 1 = .ok (.istore_n 3, 1) := by decide +kernel
theorem d_Mo_meetsAll_2 : decode c_Mo_meetsAll 2 = .ok (.aload_n 0, 1) := by decide +kernel
theorem d_Mo_meetsAll_3 : decode c_Mo_meetsAll 3 = .ok (.getfield 39, 3) := by decide +kernel
theorem d_Mo_meetsAll_6 : decode c_Mo_meetsAll 6 = .ok (.iload_n 2, 1) := by decide +kernel
theorem d_Mo_meetsAll_7 : decode c_Mo_meetsAll 7 = .ok (.iaload, 1) := by decide +kernel
theorem d_Mo_meetsAll_8 : decode c_Mo_meetsAll 8 = .ok (.iconst 1, 1) := by decide +kernel
theorem d_Mo_meetsAll_9 : decode c_Mo_meetsAll 9 = .ok (.isub, 1) := by decide +kernel
theorem d_Mo_meetsAll_10 : decode c_Mo_meetsAll 10 = .ok (.istore 4, 2) := by decide +kernel
theorem d_Mo_meetsAll_12 : decode c_Mo_meetsAll 12 = .ok (.iload 4, 2) := by decide +kernel
theorem d_Mo_meetsAll_14 : decode c_Mo_meetsAll 14 = .ok (.ifCond .lt 149, 3) := by decide +kernel
theorem d_Mo_meetsAll_17 : decode c_Mo_meetsAll 17 = .ok (.sipush 160, 3) := by decide +kernel
theorem d_Mo_meetsAll_20 : decode c_Mo_meetsAll 20 = .ok (.iload_n 2, 1) := by decide +kernel
theorem d_Mo_meetsAll_21 : decode c_Mo_meetsAll 21 = .ok (.imul, 1) := by decide +kernel
theorem d_Mo_meetsAll_22 : decode c_Mo_meetsAll 22 = .ok (.iconst 4, 1) := by decide +kernel
theorem d_Mo_meetsAll_23 : decode c_Mo_meetsAll 23 = .ok (.iload 4, 2) := by decide +kernel
theorem d_Mo_meetsAll_25 : decode c_Mo_meetsAll 25 = .ok (.imul, 1) := by decide +kernel
theorem d_Mo_meetsAll_26 : decode c_Mo_meetsAll 26 = .ok (.iadd, 1) := by decide +kernel
theorem d_Mo_meetsAll_27 : decode c_Mo_meetsAll 27 = .ok (.istore 5, 2) := by decide +kernel
theorem d_Mo_meetsAll_29 : decode c_Mo_meetsAll 29 = .ok (.aload_n 0, 1) := by decide +kernel
theorem d_Mo_meetsAll_30 : decode c_Mo_meetsAll 30 = .ok (.getfield 36, 3) := by decide +kernel
theorem d_Mo_meetsAll_33 : decode c_Mo_meetsAll 33 = .ok (.iload 5, 2) := by decide +kernel
theorem d_Mo_meetsAll_35 : decode c_Mo_meetsAll 35 = .ok (.iaload, 1) := by decide +kernel
theorem d_Mo_meetsAll_36 : decode c_Mo_meetsAll 36 = .ok (.istore 6, 2) := by decide +kernel
theorem d_Mo_meetsAll_38 : decode c_Mo_meetsAll 38 = .ok (.iload 6, 2) := by decide +kernel
theorem d_Mo_meetsAll_40 : decode c_Mo_meetsAll 40 = .ok (.iconst 3, 1) := by decide +kernel
theorem d_Mo_meetsAll_41 : decode c_Mo_meetsAll 41 = .ok (.if_icmp .ge 22, 3) := by decide +kernel
theorem d_Mo_meetsAll_44 : decode c_Mo_meetsAll 44 = .ok (.aload_n 0, 1) := by decide +kernel
theorem d_Mo_meetsAll_45 : decode c_Mo_meetsAll 45 = .ok (.getfield 58, 3) := by decide +kernel
theorem d_Mo_meetsAll_48 : decode c_Mo_meetsAll 48 = .ok (.iload_n 3, 1) := by decide +kernel
theorem d_Mo_meetsAll_49 : decode c_Mo_meetsAll 49 = .ok (.aload_n 0, 1) := by decide +kernel
theorem d_Mo_meetsAll_50 : decode c_Mo_meetsAll 50 = .ok (.iload_n 1, 1) := by decide +kernel
theorem d_Mo_meetsAll_51 : decode c_Mo_meetsAll 51 = .ok (.iload 5, 2) := by decide +kernel
theorem d_Mo_meetsAll_53 : decode c_Mo_meetsAll 53 = .ok (.invokevirtual 182, 3) := by decide +kernel
theorem d_Mo_meetsAll_56 : decode c_Mo_meetsAll 56 = .ok (.bastore, 1) := by decide +kernel
theorem d_Mo_meetsAll_57 : decode c_Mo_meetsAll 57 = .ok (.iinc 3 1, 3) := by decide +kernel
theorem d_Mo_meetsAll_60 : decode c_Mo_meetsAll 60 = .ok (.goto 97, 3) := by decide +kernel
theorem d_Mo_meetsAll_63 : decode c_Mo_meetsAll 63 = .ok (.aload_n 0, 1) := by decide +kernel
theorem d_Mo_meetsAll_64 : decode c_Mo_meetsAll 64 = .ok (.getfield 58, 3) := by decide +kernel
theorem d_Mo_meetsAll_67 : decode c_Mo_meetsAll 67 = .ok (.iload_n 3, 1) := by decide +kernel
theorem d_Mo_meetsAll_68 : decode c_Mo_meetsAll 68 = .ok (.iconst 1, 1) := by decide +kernel
theorem d_Mo_meetsAll_69 : decode c_Mo_meetsAll 69 = .ok (.isub, 1) := by decide +kernel
theorem d_Mo_meetsAll_70 : decode c_Mo_meetsAll 70 = .ok (.baload, 1) := by decide +kernel
theorem d_Mo_meetsAll_71 : decode c_Mo_meetsAll 71 = .ok (.istore 7, 2) := by decide +kernel
theorem d_Mo_meetsAll_73 : decode c_Mo_meetsAll 73 = .ok (.aload_n 0, 1) := by decide +kernel
theorem d_Mo_meetsAll_74 : decode c_Mo_meetsAll 74 = .ok (.getfield 58, 3) := by decide +kernel
theorem d_Mo_meetsAll_77 : decode c_Mo_meetsAll 77 = .ok (.iload_n 3, 1) := by decide +kernel
theorem d_Mo_meetsAll_78 : decode c_Mo_meetsAll 78 = .ok (.iconst 2, 1) := by decide +kernel
theorem d_Mo_meetsAll_79 : decode c_Mo_meetsAll 79 = .ok (.isub, 1) := by decide +kernel
theorem d_Mo_meetsAll_80 : decode c_Mo_meetsAll 80 = .ok (.baload, 1) := by decide +kernel
theorem d_Mo_meetsAll_81 : decode c_Mo_meetsAll 81 = .ok (.istore 8, 2) := by decide +kernel
theorem d_Mo_meetsAll_83 : decode c_Mo_meetsAll 83 = .ok (.iinc 3 (-1), 3) := by decide +kernel
theorem d_Mo_meetsAll_86 : decode c_Mo_meetsAll 86 = .ok (.aload_n 0, 1) := by decide +kernel
theorem d_Mo_meetsAll_87 : decode c_Mo_meetsAll 87 = .ok (.getfield 58, 3) := by decide +kernel
theorem d_Mo_meetsAll_90 : decode c_Mo_meetsAll 90 = .ok (.iload_n 3, 1) := by decide +kernel
theorem d_Mo_meetsAll_91 : decode c_Mo_meetsAll 91 = .ok (.iconst 1, 1) := by decide +kernel
theorem d_Mo_meetsAll_92 : decode c_Mo_meetsAll 92 = .ok (.isub, 1) := by decide +kernel
theorem d_Mo_meetsAll_93 : decode c_Mo_meetsAll 93 = .ok (.iload 6, 2) := by decide +kernel
theorem d_Mo_meetsAll_95 : decode c_Mo_meetsAll 95 = .ok (.iconst 3, 1) := by decide +kernel
theorem d_Mo_meetsAll_96 : decode c_Mo_meetsAll 96 = .ok (.if_icmp .ne 21, 3) := by decide +kernel
theorem d_Mo_meetsAll_99 : decode c_Mo_meetsAll 99 = .ok (.iload 7, 2) := by decide +kernel
theorem d_Mo_meetsAll_101 : decode c_Mo_meetsAll 101 = .ok (.ifCond .eq 12, 3) := by decide +kernel
theorem d_Mo_meetsAll_104 : decode c_Mo_meetsAll 104 = .ok (.iload 8, 2) := by decide +kernel
theorem d_Mo_meetsAll_106 : decode c_Mo_meetsAll 106 = .ok (.ifCond .eq 7, 3) := by decide +kernel
theorem d_Mo_meetsAll_109 : decode c_Mo_meetsAll 109 = .ok (.iconst 1, 1) := by decide +kernel
theorem d_Mo_meetsAll_110 : decode c_Mo_meetsAll 110 = .ok (.goto 46, 3) := by decide +kernel
theorem d_Mo_meetsAll_113 : decode c_Mo_meetsAll 113 = .ok (.iconst 0, 1) := by decide +kernel
theorem d_Mo_meetsAll_114 : decode c_Mo_meetsAll 114 = .ok (.goto 42, 3) := by decide +kernel
theorem d_Mo_meetsAll_117 : decode c_Mo_meetsAll 117 = .ok (.iload 6, 2) := by decide +kernel
theorem d_Mo_meetsAll_119 : decode c_Mo_meetsAll 119 = .ok (.iconst 4, 1) := by decide +kernel
theorem d_Mo_meetsAll_120 : decode c_Mo_meetsAll 120 = .ok (.if_icmp .ne 21, 3) := by decide +kernel
theorem d_Mo_meetsAll_123 : decode c_Mo_meetsAll 123 = .ok (.iload 7, 2) := by decide +kernel
theorem d_Mo_meetsAll_125 : decode c_Mo_meetsAll 125 = .ok (.ifCond .ne 8, 3) := by decide +kernel
theorem d_Mo_meetsAll_128 : decode c_Mo_meetsAll 128 = .ok (.iload 8, 2) := by decide +kernel
theorem d_Mo_meetsAll_130 : decode c_Mo_meetsAll 130 = .ok (.ifCond .eq 7, 3) := by decide +kernel
theorem d_Mo_meetsAll_133 : decode c_Mo_meetsAll 133 = .ok (.iconst 1, 1) := by decide +kernel
theorem d_Mo_meetsAll_134 : decode c_Mo_meetsAll 134 = .ok (.goto 22, 3) := by decide +kernel
theorem d_Mo_meetsAll_137 : decode c_Mo_meetsAll 137 = .ok (.iconst 0, 1) := by decide +kernel
theorem d_Mo_meetsAll_138 : decode c_Mo_meetsAll 138 = .ok (.goto 18, 3) := by decide +kernel
theorem d_Mo_meetsAll_141 : decode c_Mo_meetsAll 141 = .ok (.iload 7, 2) := by decide +kernel
theorem d_Mo_meetsAll_143 : decode c_Mo_meetsAll 143 = .ok (.ifCond .eq 12, 3) := by decide +kernel
theorem d_Mo_meetsAll_146 : decode c_Mo_meetsAll 146 = .ok (.iload 8, 2) := by decide +kernel
theorem d_Mo_meetsAll_148 : decode c_Mo_meetsAll 148 = .ok (.ifCond .ne 7, 3) := by decide +kernel
theorem d_Mo_meetsAll_151 : decode c_Mo_meetsAll 151 = .ok (.iconst 1, 1) := by decide +kernel
theorem d_Mo_meetsAll_152 : decode c_Mo_meetsAll 152 = .ok (.goto 4, 3) := by decide +kernel
theorem d_Mo_meetsAll_155 : decode c_Mo_meetsAll 155 = .ok (.iconst 0, 1) := by decide +kernel
theorem d_Mo_meetsAll_156 : decode c_Mo_meetsAll 156 = .ok (.bastore, 1) := by decide +kernel
theorem d_Mo_meetsAll_157 : decode c_Mo_meetsAll 157 = .ok (.iinc 4 (-1), 3) := by decide +kernel
theorem d_Mo_meetsAll_160 : decode c_Mo_meetsAll 160 = .ok (.goto (-148), 3) := by decide +kernel
theorem d_Mo_meetsAll_163 : decode c_Mo_meetsAll 163 = .ok (.aload_n 0, 1) := by decide +kernel
theorem d_Mo_meetsAll_164 : decode c_Mo_meetsAll 164 = .ok (.getfield 58, 3) := by decide +kernel
theorem d_Mo_meetsAll_167 : decode c_Mo_meetsAll 167 = .ok (.iconst 0, 1) := by decide +kernel
theorem d_Mo_meetsAll_168 : decode c_Mo_meetsAll 168 = .ok (.baload, 1) := by decide +kernel
theorem d_Mo_meetsAll_169 : decode c_Mo_meetsAll 169 = .ok (.ireturn, 1) := by decide +kernel
theorem d_Mo_isSaved_0 : decode c_Mo_isSaved 0 = .ok (.iload_n 1, 1) := by decide +kernel
theorem d_Mo_isSaved_1 : decode c_Mo_isSaved 1 = .ok (.ifCond .lt 22, 3) := by decide +kernel
theorem d_Mo_isSaved_4 : decode c_Mo_isSaved 4 = .ok (.iload_n 1, 1) := by decide +kernel
theorem d_Mo_isSaved_5 : decode c_Mo_isSaved 5 = .ok (.bipush 10, 2) := by decide +kernel
theorem d_Mo_isSaved_7 : decode c_Mo_isSaved 7 = .ok (.if_icmp .ge 16, 3) := by decide +kernel
theorem d_Mo_isSaved_10 : decode c_Mo_isSaved 10 = .ok (.aload_n 0, 1) := by decide +kernel
theorem d_Mo_isSaved_11 : decode c_Mo_isSaved 11 = .ok (.getfield 39, 3) := by decide +kernel
theorem d_Mo_isSaved_14 : decode c_Mo_isSaved 14 = .ok (.iload_n 1, 1) := by decide +kernel
theorem d_Mo_isSaved_15 : decode c_Mo_isSaved 15 = .ok (.iaload, 1) := by decide +kernel
theorem d_Mo_isSaved_16 : decode c_Mo_isSaved 16 = .ok (.ifCond .le 7, 3) := by decide +kernel
theorem d_Mo_isSaved_19 : decode c_Mo_isSaved 19 = .ok (.iconst 1, 1) := by decide +kernel
theorem d_Mo_isSaved_20 : decode c_Mo_isSaved 20 = .ok (.goto 4, 3) := by decide +kernel
theorem d_Mo_isSaved_23 : decode c_Mo_isSaved 23 = .ok (.iconst 0, 1) := by decide +kernel
theorem d_Mo_isSaved_24 : decode c_Mo_isSaved 24 = .ok (.ireturn, 1) := by decide +kernel
theorem d_Mo_isBroken_0 : decode c_Mo_isBroken 0 = .ok (.iconst 0, 1) := by decide +kernel
theorem d_Mo_isBroken_1 : decode c_Mo_isBroken 1 = .ok (.istore_n 2, 1) := by decide +kernel
theorem d_Mo_isBroken_2 : decode c_Mo_isBroken 2 = .ok (.iconst 0, 1) := by decide +kernel
theorem d_Mo_isBroken_3 : decode c_Mo_isBroken 3 = .ok (.istore_n 3, 1) := by decide +kernel
theorem d_Mo_isBroken_4 : decode c_Mo_isBroken 4 = .ok (.iload_n 3, 1) := by decide +kernel
theorem d_Mo_isBroken_5 : decode c_Mo_isBroken 5 = .ok (.aload_n 0, 1) := by decide +kernel
theorem d_Mo_isBroken_6 : decode c_Mo_isBroken 6 = .ok (.getfield 39, 3) := by decide +kernel
theorem d_Mo_isBroken_9 : decode c_Mo_isBroken 9 = .ok (.iload_n 1, 1) := by decide +kernel
theorem d_Mo_isBroken_10 : decode c_Mo_isBroken 10 = .ok (.iaload, 1) := by decide +kernel
theorem d_Mo_isBroken_11 : decode c_Mo_isBroken 11 = .ok (.if_icmp .ge 53, 3) := by decide +kernel
theorem d_Mo_isBroken_14 : decode c_Mo_isBroken 14 = .ok (.aload_n 0, 1) := by decide +kernel
theorem d_Mo_isBroken_15 : decode c_Mo_isBroken 15 = .ok (.getfield 36, 3) := by decide +kernel
theorem d_Mo_isBroken_18 : decode c_Mo_isBroken 18 = .ok (.sipush 160, 3) := by decide +kernel
theorem d_Mo_isBroken_21 : decode c_Mo_isBroken 21 = .ok (.iload_n 1, 1) := by decide +kernel
theorem d_Mo_isBroken_22 : decode c_Mo_isBroken 22 = .ok (.imul, 1) := by decide +kernel
theorem d_Mo_isBroken_23 : decode c_Mo_isBroken 23 = .ok (.iconst 4, 1) := by decide +kernel
theorem d_Mo_isBroken_24 : decode c_Mo_isBroken 24 = .ok (.iload_n 3, 1) := by decide +kernel
theorem d_Mo_isBroken_25 : decode c_Mo_isBroken 25 = .ok (.imul, 1) := by decide +kernel
theorem d_Mo_isBroken_26 : decode c_Mo_isBroken 26 = .ok (.iadd, 1) := by decide +kernel
theorem d_Mo_isBroken_27 : decode c_Mo_isBroken 27 = .ok (.iconst 1, 1) := by decide +kernel
theorem d_Mo_isBroken_28 : decode c_Mo_isBroken 28 = .ok (.iadd, 1) := by decide +kernel
theorem d_Mo_isBroken_29 : decode c_Mo_isBroken 29 = .ok (.iaload, 1) := by decide +kernel
theorem d_Mo_isBroken_30 : decode c_Mo_isBroken 30 = .ok (.istore 4, 2) := by decide +kernel
theorem d_Mo_isBroken_32 : decode c_Mo_isBroken 32 = .ok (.iload_n 2, 1) := by decide +kernel
theorem d_Mo_isBroken_33 : decode c_Mo_isBroken 33 = .ok (.ifCond .ne 19, 3) := by decide +kernel
theorem d_Mo_isBroken_36 : decode c_Mo_isBroken 36 = .ok (.iload 4, 2) := by decide +kernel
theorem d_Mo_isBroken_38 : decode c_Mo_isBroken 38 = .ok (.iconst (-1), 1) := by decide +kernel
theorem d_Mo_isBroken_39 : decode c_Mo_isBroken 39 = .ok (.if_icmp .eq 17, 3) := by decide +kernel
theorem d_Mo_isBroken_42 : decode c_Mo_isBroken 42 = .ok (.aload_n 0, 1) := by decide +kernel
theorem d_Mo_isBroken_43 : decode c_Mo_isBroken 43 = .ok (.getfield 20, 3) := by decide +kernel
theorem d_Mo_isBroken_46 : decode c_Mo_isBroken 46 = .ok (.iload 4, 2) := by decide +kernel
theorem d_Mo_isBroken_48 : decode c_Mo_isBroken 48 = .ok (.baload, 1) := by decide +kernel
theorem d_Mo_isBroken_49 : decode c_Mo_isBroken 49 = .ok (.ifCond .eq 7, 3) := by decide +kernel
theorem d_Mo_isBroken_52 : decode c_Mo_isBroken 52 = .ok (.iconst 1, 1) := by decide +kernel
theorem d_Mo_isBroken_53 : decode c_Mo_isBroken 53 = .ok (.goto 4, 3) := by decide +kernel
theorem d_Mo_isBroken_56 : decode c_Mo_isBroken 56 = .ok (.iconst 0, 1) := by decide +kernel
theorem d_Mo_isBroken_57 : decode c_Mo_isBroken 57 = .ok (.istore_n 2, 1) := by decide +kernel
theorem d_Mo_isBroken_58 : decode c_Mo_isBroken 58 = .ok (.iinc 3 1, 3) := by decide +kernel
theorem d_Mo_isBroken_61 : decode c_Mo_isBroken 61 = .ok (.goto (-57), 3) := by decide +kernel
theorem d_Mo_isBroken_64 : decode c_Mo_isBroken 64 = .ok (.iload_n 2, 1) := by decide +kernel
theorem d_Mo_isBroken_65 : decode c_Mo_isBroken 65 = .ok (.ireturn, 1) := by decide +kernel
theorem d_Mo_save_0 : decode c_Mo_save 0 = .ok (.aload_n 0, 1) := by decide +kernel
theorem d_Mo_save_1 : decode c_Mo_save 1 = .ok (.iconst 0, 1) := by decide +kernel
theorem d_Mo_save_2 : decode c_Mo_save 2 = .ok (.putfield 70, 3) := by decide +kernel
theorem d_Mo_save_5 : decode c_Mo_save 5 = .ok (.iload_n 1, 1) := by decide +kernel
theorem d_Mo_save_6 : decode c_Mo_save 6 = .ok (.ifCond .lt 19, 3) := by decide +kernel
theorem d_Mo_save_9 : decode c_Mo_save 9 = .ok (.iload_n 1, 1) := by decide +kernel
theorem d_Mo_save_10 : decode c_Mo_save 10 = .ok (.bipush 9, 2) := by decide +kernel
theorem d_Mo_save_12 : decode c_Mo_save 12 = .ok (.if_icmp .gt 13, 3) := by decide +kernel
theorem d_Mo_save_15 : decode c_Mo_save 15 = .ok (.aload_n 0, 1) := by decide +kernel
theorem d_Mo_save_16 : decode c_Mo_save 16 = .ok (.getfield 39, 3) := by decide +kernel
theorem d_Mo_save_19 : decode c_Mo_save 19 = .ok (.bipush 10, 2) := by decide +kernel
theorem d_Mo_save_21 : decode c_Mo_save 21 = .ok (.iaload, 1) := by decide +kernel
theorem d_Mo_save_22 : decode c_Mo_save 22 = .ok (.ifCond .ne 5, 3) := by decide +kernel
theorem d_Mo_save_25 : decode c_Mo_save 25 = .ok (.iconst 0, 1) := by decide +kernel
theorem d_Mo_save_26 : decode c_Mo_save 26 = .ok (.ireturn, 1) := by decide +kernel
theorem d_Mo_save_27 : decode c_Mo_save 27 = .ok (.iconst 0, 1) := by decide +kernel
theorem d_Mo_save_28 : decode c_Mo_save 28 = .ok (.istore_n 2, 1) := by decide +kernel
theorem d_Mo_save_29 : decode c_Mo_save 29 = .ok (.iload_n 2, 1) := by decide +kernel
theorem d_Mo_save_30 : decode c_Mo_save 30 = .ok (.sipush 160, 3) := by decide +kernel
theorem d_Mo_save_33 : decode c_Mo_save 33 = .ok (.if_icmp .ge 31, 3) := by decide +kernel
theorem d_Mo_save_36 : decode c_Mo_save 36 = .ok (.aload_n 0, 1) := by decide +kernel
theorem d_Mo_save_37 : decode c_Mo_save 37 = .ok (.getfield 36, 3) := by decide +kernel
theorem d_Mo_save_40 : decode c_Mo_save 40 = .ok (.sipush 160, 3) := by decide +kernel
theorem d_Mo_save_43 : decode c_Mo_save 43 = .ok (.iload_n 1, 1) := by decide +kernel
theorem d_Mo_save_44 : decode c_Mo_save 44 = .ok (.imul, 1) := by decide +kernel
theorem d_Mo_save_45 : decode c_Mo_save 45 = .ok (.iload_n 2, 1) := by decide +kernel
theorem d_Mo_save_46 : decode c_Mo_save 46 = .ok (.iadd, 1) := by decide +kernel
theorem d_Mo_save_47 : decode c_Mo_save 47 = .ok (.aload_n 0, 1) := by decide +kernel
theorem d_Mo_save_48 : decode c_Mo_save 48 = .ok (.getfield 36, 3) := by decide +kernel
theorem d_Mo_save_51 : decode c_Mo_save 51 = .ok (.sipush 1600, 3) := by decide +kernel
theorem d_Mo_save_54 : decode c_Mo_save 54 = .ok (.iload_n 2, 1) := by decide +kernel
theorem d_Mo_save_55 : decode c_Mo_save 55 = .ok (.iadd, 1) := by decide +kernel
theorem d_Mo_save_56 : decode c_Mo_save 56 = .ok (.iaload, 1) := by decide +kernel
theorem d_Mo_save_57 : decode c_Mo_save 57 = .ok (.iastore, 1) := by decide +kernel
theorem d_Mo_save_58 : decode c_Mo_save 58 = .ok (.iinc 2 1, 3) := by decide +kernel
theorem d_Mo_save_61 : decode c_Mo_save 61 = .ok (.goto (-32), 3) := by decide +kernel
theorem d_Mo_save_64 : decode c_Mo_save 64 = .ok (.aload_n 0, 1) := by decide +kernel
theorem d_Mo_save_65 : decode c_Mo_save 65 = .ok (.getfield 39, 3) := by decide +kernel
theorem d_Mo_save_68 : decode c_Mo_save 68 = .ok (.iload_n 1, 1) := by decide +kernel
theorem d_Mo_save_69 : decode c_Mo_save 69 = .ok (.aload_n 0, 1) := by decide +kernel
theorem d_Mo_save_70 : decode c_Mo_save 70 = .ok (.getfield 39, 3) := by decide +kernel
theorem d_Mo_save_73 : decode c_Mo_save 73 = .ok (.bipush 10, 2) := by decide +kernel
theorem d_Mo_save_75 : decode c_Mo_save 75 = .ok (.iaload, 1) := by decide +kernel
theorem d_Mo_save_76 : decode c_Mo_save 76 = .ok (.iastore, 1) := by decide +kernel
theorem d_Mo_save_77 : decode c_Mo_save 77 = .ok (.aload_n 0, 1) := by decide +kernel
theorem d_Mo_save_78 : decode c_Mo_save 78 = .ok (.getfield 42, 3) := by decide +kernel
theorem d_Mo_save_81 : decode c_Mo_save 81 = .ok (.iload_n 1, 1) := by decide +kernel
theorem d_Mo_save_82 : decode c_Mo_save 82 = .ok (.iconst 0, 1) := by decide +kernel
theorem d_Mo_save_83 : decode c_Mo_save 83 = .ok (.bastore, 1) := by decide +kernel
theorem d_Mo_save_84 : decode c_Mo_save 84 = .ok (.iconst 1, 1) := by decide +kernel
theorem d_Mo_save_85 : decode c_Mo_save 85 = .ok (.ireturn, 1) := by decide +kernel
theorem d_Mo_finds_0 : decode c_Mo_finds 0 = .ok (.aload_n 0, 1) := by decide +kernel
theorem d_Mo_finds_1 : decode c_Mo_finds 1 = .ok (.iconst 0, 1) := by decide +kernel
theorem d_Mo_finds_2 : decode c_Mo_finds 2 = .ok (.putfield 185, 3) := by decide +kernel
theorem d_Mo_finds_5 : decode c_Mo_finds 5 = .ok (.aload_n 0, 1) := by decide +kernel
theorem d_Mo_finds_6 : decode c_Mo_finds 6 = .ok (.getfield 175, 3) := by decide +kernel
theorem d_Mo_finds_9 : decode c_Mo_finds 9 = .ok (.istore_n 3, 1) := by decide +kernel
theorem d_Mo_finds_10 : decode c_Mo_finds 10 = .ok (.iload_n 3, 1) := by decide +kernel
theorem d_Mo_finds_11 : decode c_Mo_finds 11 = .ok (.ifCond .le 113, 3) := by decide +kernel
theorem d_Mo_finds_14 : decode c_Mo_finds 14 = .ok (.iload_n 3, 1) := by decide +kernel
theorem d_Mo_finds_15 : decode c_Mo_finds 15 = .ok (.istore 4, 2) := by decide +kernel
theorem d_Mo_finds_17 : decode c_Mo_finds 17 = .ok (.iload 4, 2) := by decide +kernel
theorem d_Mo_finds_19 : decode c_Mo_finds 19 = .ok (.iconst 1, 1) := by decide +kernel
theorem d_Mo_finds_20 : decode c_Mo_finds 20 = .ok (.if_icmp .le 28, 3) := by decide +kernel
theorem d_Mo_finds_23 : decode c_Mo_finds 23 = .ok (.aload_n 0, 1) := by decide +kernel
theorem d_Mo_finds_24 : decode c_Mo_finds 24 = .ok (.getfield 49, 3) := by decide +kernel
theorem d_Mo_finds_27 : decode c_Mo_finds 27 = .ok (.iload 4, 2) := by decide +kernel
theorem d_Mo_finds_29 : decode c_Mo_finds 29 = .ok (.iconst 1, 1) := by decide +kernel
theorem d_Mo_finds_30 : decode c_Mo_finds 30 = .ok (.isub, 1) := by decide +kernel
theorem d_Mo_finds_31 : decode c_Mo_finds 31 = .ok (.laload, 1) := by decide +kernel
theorem d_Mo_finds_32 : decode c_Mo_finds 32 = .ok (.aload_n 0, 1) := by decide +kernel
theorem d_Mo_finds_33 : decode c_Mo_finds 33 = .ok (.getfield 49, 3) := by decide +kernel
theorem d_Mo_finds_36 : decode c_Mo_finds 36 = .ok (.iload_n 3, 1) := by decide +kernel
theorem d_Mo_finds_37 : decode c_Mo_finds 37 = .ok (.laload, 1) := by decide +kernel
theorem d_Mo_finds_38 : decode c_Mo_finds 38 = .ok (.lcmp, 1) := by decide +kernel
theorem d_Mo_finds_39 : decode c_Mo_finds 39 = .ok (.ifCond .ne 9, 3) := by decide +kernel
theorem d_Mo_finds_42 : decode c_Mo_finds 42 = .ok (.iinc 4 (-1), 3) := by decide +kernel
theorem d_Mo_finds_45 : decode c_Mo_finds 45 = .ok (.goto (-28), 3) := by decide +kernel
theorem d_Mo_finds_48 : decode c_Mo_finds 48 = .ok (.iload 4, 2) := by decide +kernel
theorem d_Mo_finds_50 : decode c_Mo_finds 50 = .ok (.istore 5, 2) := by decide +kernel
theorem d_Mo_finds_52 : decode c_Mo_finds 52 = .ok (.iload 5, 2) := by decide +kernel
theorem d_Mo_finds_54 : decode c_Mo_finds 54 = .ok (.iload_n 3, 1) := by decide +kernel
theorem d_Mo_finds_55 : decode c_Mo_finds 55 = .ok (.if_icmp .gt 61, 3) := by decide +kernel
theorem d_Mo_finds_58 : decode c_Mo_finds 58 = .ok (.iload_n 2, 1) := by decide +kernel
theorem d_Mo_finds_59 : decode c_Mo_finds 59 = .ok (.ifCond .ne 20, 3) := by decide +kernel
theorem d_Mo_finds_62 : decode c_Mo_finds 62 = .ok (.aload_n 0, 1) := by decide +kernel
theorem d_Mo_finds_63 : decode c_Mo_finds 63 = .ok (.getfield 49, 3) := by decide +kernel
theorem d_Mo_finds_66 : decode c_Mo_finds 66 = .ok (.iload 5, 2) := by decide +kernel
theorem d_Mo_finds_68 : decode c_Mo_finds 68 = .ok (.laload, 1) := by decide +kernel
theorem d_Mo_finds_69 : decode c_Mo_finds 69 = .ok (.aload_n 0, 1) := by decide +kernel
theorem d_Mo_finds_70 : decode c_Mo_finds 70 = .ok (.getfield 45, 3) := by decide +kernel
theorem d_Mo_finds_73 : decode c_Mo_finds 73 = .ok (.iload_n 1, 1) := by decide +kernel
theorem d_Mo_finds_74 : decode c_Mo_finds 74 = .ok (.laload, 1) := by decide +kernel
theorem d_Mo_finds_75 : decode c_Mo_finds 75 = .ok (.lcmp, 1) := by decide +kernel
theorem d_Mo_finds_76 : decode c_Mo_finds 76 = .ok (.ifCond .le 34, 3) := by decide +kernel
theorem d_Mo_finds_79 : decode c_Mo_finds 79 = .ok (.aload_n 0, 1) := by decide +kernel
theorem d_Mo_finds_80 : decode c_Mo_finds 80 = .ok (.iload 5, 2) := by decide +kernel
theorem d_Mo_finds_82 : decode c_Mo_finds 82 = .ok (.iload_n 1, 1) := by decide +kernel
theorem d_Mo_finds_83 : decode c_Mo_finds 83 = .ok (.invokevirtual 188, 3) := by decide +kernel
theorem d_Mo_finds_86 : decode c_Mo_finds 86 = .ok (.ifCond .eq 24, 3) := by decide +kernel
theorem d_Mo_finds_89 : decode c_Mo_finds 89 = .ok (.aload_n 0, 1) := by decide +kernel
theorem d_Mo_finds_90 : decode c_Mo_finds 90 = .ok (.getfield 61, 3) := by decide +kernel
theorem d_Mo_finds_93 : decode c_Mo_finds 93 = .ok (.aload_n 0, 1) := by decide +kernel
theorem d_Mo_finds_94 : decode c_Mo_finds 94 = .ok (.getfield 185, 3) := by decide +kernel
theorem d_Mo_finds_97 : decode c_Mo_finds 97 = .ok (.iload 5, 2) := by decide +kernel
theorem d_Mo_finds_99 : decode c_Mo_finds 99 = .ok (.iastore, 1) := by decide +kernel
theorem d_Mo_finds_100 : decode c_Mo_finds 100 = .ok (.aload_n 0, 1) := by decide +kernel
theorem d_Mo_finds_101 : decode c_Mo_finds 101 = .ok (.dup, 1) := by decide +kernel
theorem d_Mo_finds_102 : decode c_Mo_finds 102 = .ok (.getfield 185, 3) := by decide +kernel
theorem d_Mo_finds_105 : decode c_Mo_finds 105 = .ok (.iconst 1, 1) := by decide +kernel
theorem d_Mo_finds_106 : decode c_Mo_finds 106 = .ok (.iadd, 1) := by decide +kernel
theorem d_Mo_finds_107 : decode c_Mo_finds 107 = .ok (.putfield 185, 3) := by decide +kernel
theorem d_Mo_finds_110 : decode c_Mo_finds 110 = .ok (.iinc 5 1, 3) := by decide +kernel
theorem d_Mo_finds_113 : decode c_Mo_finds 113 = .ok (.goto (-61), 3) := by decide +kernel
theorem d_Mo_finds_116 : decode c_Mo_finds 116 = .ok (.iload 4, 2) := by decide +kernel
theorem d_Mo_finds_118 : decode c_Mo_finds 118 = .ok (.iconst 1, 1) := by decide +kernel
theorem d_Mo_finds_119 : decode c_Mo_finds 119 = .ok (.isub, 1) := by decide +kernel
theorem d_Mo_finds_120 : decode c_Mo_finds 120 = .ok (.istore_n 3, 1) := by decide +kernel
theorem d_Mo_finds_121 : decode c_Mo_finds 121 = .ok (.goto (-111), 3) := by decide +kernel
theorem d_Mo_finds_124 : decode c_Mo_finds 124 = .ok (.aload_n 0, 1) := by decide +kernel
theorem d_Mo_finds_125 : decode c_Mo_finds 125 = .ok (.getfield 185, 3) := by decide +kernel
theorem d_Mo_finds_128 : decode c_Mo_finds 128 = .ok (.ireturn, 1) := by decide +kernel
theorem d_Mo_run_0 : decode c_Mo_run 0 = .ok (.aload_n 0, 1) := by decide +kernel
theorem d_Mo_run_1 : decode c_Mo_run 1 = .ok (.iconst 0, 1) := by decide +kernel
theorem d_Mo_run_2 : decode c_Mo_run 2 = .ok (.putfield 70, 3) := by decide +kernel
theorem d_Mo_run_5 : decode c_Mo_run 5 = .ok (.aload_n 0, 1) := by decide +kernel
theorem d_Mo_run_6 : decode c_Mo_run 6 = .ok (.iload_n 1, 1) := by decide +kernel
theorem d_Mo_run_7 : decode c_Mo_run 7 = .ok (.invokevirtual 191, 3) := by decide +kernel
theorem d_Mo_run_10 : decode c_Mo_run 10 = .ok (.ifCond .eq 20, 3) := by decide +kernel
theorem d_Mo_run_13 : decode c_Mo_run 13 = .ok (.aload_n 0, 1) := by decide +kernel
theorem d_Mo_run_14 : decode c_Mo_run 14 = .ok (.iload_n 1, 1) := by decide +kernel
theorem d_Mo_run_15 : decode c_Mo_run 15 = .ok (.invokevirtual 194, 3) := by decide +kernel
theorem d_Mo_run_18 : decode c_Mo_run 18 = .ok (.ifCond .ne 12, 3) := by decide +kernel
theorem d_Mo_run_21 : decode c_Mo_run 21 = .ok (.aload_n 0, 1) := by decide +kernel
theorem d_Mo_run_22 : decode c_Mo_run 22 = .ok (.iload_n 1, 1) := by decide +kernel
theorem d_Mo_run_23 : decode c_Mo_run 23 = .ok (.iconst 1, 1) := by decide +kernel
theorem d_Mo_run_24 : decode c_Mo_run 24 = .ok (.invokevirtual 197, 3) := by decide +kernel
theorem d_Mo_run_27 : decode c_Mo_run 27 = .ok (.goto 4, 3) := by decide +kernel
theorem d_Mo_run_30 : decode c_Mo_run 30 = .ok (.iconst (-1), 1) := by decide +kernel
theorem d_Mo_run_31 : decode c_Mo_run 31 = .ok (.ireturn, 1) := by decide +kernel
theorem d_Mo_alert_0 : decode c_Mo_alert 0 = .ok (.aload_n 0, 1) := by decide +kernel
theorem d_Mo_alert_1 : decode c_Mo_alert 1 = .ok (.iconst 0, 1) := by decide +kernel
theorem d_Mo_alert_2 : decode c_Mo_alert 2 = .ok (.putfield 70, 3) := by decide +kernel
theorem d_Mo_alert_5 : decode c_Mo_alert 5 = .ok (.aload_n 0, 1) := by decide +kernel
theorem d_Mo_alert_6 : decode c_Mo_alert 6 = .ok (.iload_n 1, 1) := by decide +kernel
theorem d_Mo_alert_7 : decode c_Mo_alert 7 = .ok (.invokevirtual 191, 3) := by decide +kernel
theorem d_Mo_alert_10 : decode c_Mo_alert 10 = .ok (.ifCond .eq 11, 3) := by decide +kernel
theorem d_Mo_alert_13 : decode c_Mo_alert 13 = .ok (.aload_n 0, 1) := by decide +kernel
theorem d_Mo_alert_14 : decode c_Mo_alert 14 = .ok (.iload_n 1, 1) := by decide +kernel
theorem d_Mo_alert_15 : decode c_Mo_alert 15 = .ok (.invokevirtual 194, 3) := by decide +kernel
theorem d_Mo_alert_18 : decode c_Mo_alert 18 = .ok (.ifCond .eq 5, 3) := by decide +kernel
theorem d_Mo_alert_21 : decode c_Mo_alert 21 = .ok (.iconst (-1), 1) := by decide +kernel
theorem d_Mo_alert_22 : decode c_Mo_alert 22 = .ok (.ireturn, 1) := by decide +kernel
theorem d_Mo_alert_23 : decode c_Mo_alert 23 = .ok (.aload_n 0, 1) := by decide +kernel
theorem d_Mo_alert_24 : decode c_Mo_alert 24 = .ok (.iload_n 1, 1) := by decide +kernel
theorem d_Mo_alert_25 : decode c_Mo_alert 25 = .ok (.aload_n 0, 1) := by decide +kernel
theorem d_Mo_alert_26 : decode c_Mo_alert 26 = .ok (.getfield 42, 3) := by decide +kernel
theorem d_Mo_alert_29 : decode c_Mo_alert 29 = .ok (.iload_n 1, 1) := by decide +kernel
theorem d_Mo_alert_30 : decode c_Mo_alert 30 = .ok (.baload, 1) := by decide +kernel
theorem d_Mo_alert_31 : decode c_Mo_alert 31 = .ok (.ifCond .ne 7, 3) := by decide +kernel
theorem d_Mo_alert_34 : decode c_Mo_alert 34 = .ok (.iconst 1, 1) := by decide +kernel
theorem d_Mo_alert_35 : decode c_Mo_alert 35 = .ok (.goto 4, 3) := by decide +kernel
theorem d_Mo_alert_38 : decode c_Mo_alert 38 = .ok (.iconst 0, 1) := by decide +kernel
theorem d_Mo_alert_39 : decode c_Mo_alert 39 = .ok (.invokevirtual 197, 3) := by decide +kernel
theorem d_Mo_alert_42 : decode c_Mo_alert 42 = .ok (.istore_n 2, 1) := by decide +kernel
theorem d_Mo_alert_43 : decode c_Mo_alert 43 = .ok (.aload_n 0, 1) := by decide +kernel
theorem d_Mo_alert_44 : decode c_Mo_alert 44 = .ok (.getfield 175, 3) := by decide +kernel
theorem d_Mo_alert_47 : decode c_Mo_alert 47 = .ok (.ifCond .le 25, 3) := by decide +kernel
theorem d_Mo_alert_50 : decode c_Mo_alert 50 = .ok (.aload_n 0, 1) := by decide +kernel
theorem d_Mo_alert_51 : decode c_Mo_alert 51 = .ok (.getfield 42, 3) := by decide +kernel
theorem d_Mo_alert_54 : decode c_Mo_alert 54 = .ok (.iload_n 1, 1) := by decide +kernel
theorem d_Mo_alert_55 : decode c_Mo_alert 55 = .ok (.iconst 1, 1) := by decide +kernel
theorem d_Mo_alert_56 : decode c_Mo_alert 56 = .ok (.bastore, 1) := by decide +kernel
theorem d_Mo_alert_57 : decode c_Mo_alert 57 = .ok (.aload_n 0, 1) := by decide +kernel
theorem d_Mo_alert_58 : decode c_Mo_alert 58 = .ok (.getfield 45, 3) := by decide +kernel
theorem d_Mo_alert_61 : decode c_Mo_alert 61 = .ok (.iload_n 1, 1) := by decide +kernel
theorem d_Mo_alert_62 : decode c_Mo_alert 62 = .ok (.aload_n 0, 1) := by decide +kernel
theorem d_Mo_alert_63 : decode c_Mo_alert 63 = .ok (.getfield 49, 3) := by decide +kernel
theorem d_Mo_alert_66 : decode c_Mo_alert 66 = .ok (.aload_n 0, 1) := by decide +kernel
theorem d_Mo_alert_67 : decode c_Mo_alert 67 = .ok (.getfield 175, 3) := by decide +kernel
theorem d_Mo_alert_70 : decode c_Mo_alert 70 = .ok (.laload, 1) := by decide +kernel
theorem d_Mo_alert_71 : decode c_Mo_alert 71 = .ok (.lastore, 1) := by decide +kernel
theorem d_Mo_alert_72 : decode c_Mo_alert 72 = .ok (.iload_n 2, 1) := by decide +kernel
theorem d_Mo_alert_73 : decode c_Mo_alert 73 = .ok (.ireturn, 1) := by decide +kernel
theorem d_Mo_at_0 : decode c_Mo_at 0 = .ok (.aload_n 0, 1) := by decide +kernel
theorem d_Mo_at_1 : decode c_Mo_at 1 = .ok (.iconst 0, 1) := by decide +kernel
theorem d_Mo_at_2 : decode c_Mo_at 2 = .ok (.putfield 70, 3) := by decide +kernel
theorem d_Mo_at_5 : decode c_Mo_at 5 = .ok (.iload_n 1, 1) := by decide +kernel
theorem d_Mo_at_6 : decode c_Mo_at 6 = .ok (.ifCond .lt 11, 3) := by decide +kernel
theorem d_Mo_at_9 : decode c_Mo_at 9 = .ok (.iload_n 1, 1) := by decide +kernel
theorem d_Mo_at_10 : decode c_Mo_at 10 = .ok (.aload_n 0, 1) := by decide +kernel
theorem d_Mo_at_11 : decode c_Mo_at 11 = .ok (.getfield 185, 3) := by decide +kernel
theorem d_Mo_at_14 : decode c_Mo_at 14 = .ok (.if_icmp .lt 7, 3) := by decide +kernel
theorem d_Mo_at_17 : decode c_Mo_at 17 = .ok (.iconst 0, 1) := by decide +kernel
theorem d_Mo_at_18 : decode c_Mo_at 18 = .ok (.goto 9, 3) := by decide +kernel
theorem d_Mo_at_21 : decode c_Mo_at 21 = .ok (.aload_n 0, 1) := by decide +kernel
theorem d_Mo_at_22 : decode c_Mo_at 22 = .ok (.getfield 61, 3) := by decide +kernel
theorem d_Mo_at_25 : decode c_Mo_at 25 = .ok (.iload_n 1, 1) := by decide +kernel
theorem d_Mo_at_26 : decode c_Mo_at 26 = .ok (.iaload, 1) := by decide +kernel
theorem d_Mo_at_27 : decode c_Mo_at 27 = .ok (.ireturn, 1) := by decide +kernel
theorem d_Mo_same_0 : decode c_Mo_same 0 = .ok (.aload_n 0, 1) := by decide +kernel
theorem d_Mo_same_1 : decode c_Mo_same 1 = .ok (.iconst 0, 1) := by decide +kernel
theorem d_Mo_same_2 : decode c_Mo_same 2 = .ok (.putfield 70, 3) := by decide +kernel
theorem d_Mo_same_5 : decode c_Mo_same 5 = .ok (.aload_n 0, 1) := by decide +kernel
theorem d_Mo_same_6 : decode c_Mo_same 6 = .ok (.iload_n 1, 1) := by decide +kernel
theorem d_Mo_same_7 : decode c_Mo_same 7 = .ok (.invokevirtual 191, 3) := by decide +kernel
theorem d_Mo_same_10 : decode c_Mo_same 10 = .ok (.ifCond .eq 26, 3) := by decide +kernel
theorem d_Mo_same_13 : decode c_Mo_same 13 = .ok (.aload_n 0, 1) := by decide +kernel
theorem d_Mo_same_14 : decode c_Mo_same 14 = .ok (.iload_n 2, 1) := by decide +kernel
theorem d_Mo_same_15 : decode c_Mo_same 15 = .ok (.invokevirtual 191, 3) := by decide +kernel
theorem d_Mo_same_18 : decode c_Mo_same 18 = .ok (.ifCond .eq 18, 3) := by decide +kernel
theorem d_Mo_same_21 : decode c_Mo_same 21 = .ok (.aload_n 0, 1) := by decide +kernel
theorem d_Mo_same_22 : decode c_Mo_same 22 = .ok (.getfield 39, 3) := by decide +kernel
theorem d_Mo_same_25 : decode c_Mo_same 25 = .ok (.iload_n 1, 1) := by decide +kernel
theorem d_Mo_same_26 : decode c_Mo_same 26 = .ok (.iaload, 1) := by decide +kernel
theorem d_Mo_same_27 : decode c_Mo_same 27 = .ok (.aload_n 0, 1) := by decide +kernel
theorem d_Mo_same_28 : decode c_Mo_same 28 = .ok (.getfield 39, 3) := by decide +kernel
theorem d_Mo_same_31 : decode c_Mo_same 31 = .ok (.iload_n 2, 1) := by decide +kernel
theorem d_Mo_same_32 : decode c_Mo_same 32 = .ok (.iaload, 1) := by decide +kernel
theorem d_Mo_same_33 : decode c_Mo_same 33 = .ok (.if_icmp .eq 5, 3) := by decide +kernel
theorem d_Mo_same_36 : decode c_Mo_same 36 = .ok (.iconst 0, 1) := by decide +kernel
theorem d_Mo_same_37 : decode c_Mo_same 37 = .ok (.ireturn, 1) := by decide +kernel
theorem d_Mo_same_38 : decode c_Mo_same 38 = .ok (.iconst 1, 1) := by decide +kernel
theorem d_Mo_same_39 : decode c_Mo_same 39 = .ok (.istore_n 3, 1) := by decide +kernel
theorem d_Mo_same_40 : decode c_Mo_same 40 = .ok (.iconst 0, 1) := by decide +kernel
theorem d_Mo_same_41 : decode c_Mo_same 41 = .ok (.istore 4, 2) := by decide +kernel
theorem d_Mo_same_43 : decode c_Mo_same 43 = .ok (.iload 4, 2) := by decide +kernel
theorem d_Mo_same_45 : decode c_Mo_same 45 = .ok (.iconst 4, 1) := by decide +kernel
theorem d_Mo_same_46 : decode c_Mo_same 46 = .ok (.aload_n 0, 1) := by decide +kernel
theorem d_Mo_same_47 : decode c_Mo_same 47 = .ok (.getfield 39, 3) := by decide +kernel
theorem d_Mo_same_50 : decode c_Mo_same 50 = .ok (.iload_n 1, 1) := by decide +kernel
theorem d_Mo_same_51 : decode c_Mo_same 51 = .ok (.iaload, 1) := by decide +kernel
theorem d_Mo_same_52 : decode c_Mo_same 52 = .ok (.imul, 1) := by decide +kernel
theorem d_Mo_same_53 : decode c_Mo_same 53 = .ok (.if_icmp .ge 48, 3) := by decide +kernel
theorem d_Mo_same_56 : decode c_Mo_same 56 = .ok (.iload_n 3, 1) := by decide +kernel
theorem d_Mo_same_57 : decode c_Mo_same 57 = .ok (.ifCond .eq 36, 3) := by decide +kernel
theorem d_Mo_same_60 : decode c_Mo_same 60 = .ok (.aload_n 0, 1) := by decide +kernel
theorem d_Mo_same_61 : decode c_Mo_same 61 = .ok (.getfield 36, 3) := by decide +kernel
theorem d_Mo_same_64 : decode c_Mo_same 64 = .ok (.sipush 160, 3) := by decide +kernel
theorem d_Mo_same_67 : decode c_Mo_same 67 = .ok (.iload_n 1, 1) := by decide +kernel
theorem d_Mo_same_68 : decode c_Mo_same 68 = .ok (.imul, 1) := by decide +kernel
theorem d_Mo_same_69 : decode c_Mo_same 69 = .ok (.iload 4, 2) := by decide +kernel
theorem d_Mo_same_71 : decode c_Mo_same 71 = .ok (.iadd, 1) := by decide +kernel
theorem d_Mo_same_72 : decode c_Mo_same 72 = .ok (.iaload, 1) := by decide +kernel
theorem d_Mo_same_73 : decode c_Mo_same 73 = .ok (.aload_n 0, 1) := by decide +kernel
theorem d_Mo_same_74 : decode c_Mo_same 74 = .ok (.getfield 36, 3) := by decide +kernel
theorem d_Mo_same_77 : decode c_Mo_same 77 = .ok (.sipush 160, 3) := by decide +kernel
theorem d_Mo_same_80 : decode c_Mo_same 80 = .ok (.iload_n 2, 1) := by decide +kernel
theorem d_Mo_same_81 : decode c_Mo_same 81 = .ok (.imul, 1) := by decide +kernel
theorem d_Mo_same_82 : decode c_Mo_same 82 = .ok (.iload 4, 2) := by decide +kernel
theorem d_Mo_same_84 : decode c_Mo_same 84 = .ok (.iadd, 1) := by decide +kernel
theorem d_Mo_same_85 : decode c_Mo_same 85 = .ok (.iaload, 1) := by decide +kernel
theorem d_Mo_same_86 : decode c_Mo_same 86 = .ok (.if_icmp .ne 7, 3) := by decide +kernel
theorem d_Mo_same_89 : decode c_Mo_same 89 = .ok (.iconst 1, 1) := by decide +kernel
theorem d_Mo_same_90 : decode c_Mo_same 90 = .ok (.goto 4, 3) := by decide +kernel
theorem d_Mo_same_93 : decode c_Mo_same 93 = .ok (.iconst 0, 1) := by decide +kernel
theorem d_Mo_same_94 : decode c_Mo_same 94 = .ok (.istore_n 3, 1) := by decide +kernel
theorem d_Mo_same_95 : decode c_Mo_same 95 = .ok (.iinc 4 1, 3) := by decide +kernel
theorem d_Mo_same_98 : decode c_Mo_same 98 = .ok (.goto (-55), 3) := by decide +kernel
theorem d_Mo_same_101 : decode c_Mo_same 101 = .ok (.iload_n 3, 1) := by decide +kernel
theorem d_Mo_same_102 : decode c_Mo_same 102 = .ok (.ireturn, 1) := by decide +kernel
theorem d_Mo_broken_0 : decode c_Mo_broken 0 = .ok (.aload_n 0, 1) := by decide +kernel
theorem d_Mo_broken_1 : decode c_Mo_broken 1 = .ok (.iconst 0, 1) := by decide +kernel
theorem d_Mo_broken_2 : decode c_Mo_broken 2 = .ok (.putfield 70, 3) := by decide +kernel
theorem d_Mo_broken_5 : decode c_Mo_broken 5 = .ok (.iconst 0, 1) := by decide +kernel
theorem d_Mo_broken_6 : decode c_Mo_broken 6 = .ok (.istore_n 1, 1) := by decide +kernel
theorem d_Mo_broken_7 : decode c_Mo_broken 7 = .ok (.iconst 0, 1) := by decide +kernel
theorem d_Mo_broken_8 : decode c_Mo_broken 8 = .ok (.istore_n 2, 1) := by decide +kernel
theorem d_Mo_broken_9 : decode c_Mo_broken 9 = .ok (.iload_n 2, 1) := by decide +kernel
theorem d_Mo_broken_10 : decode c_Mo_broken 10 = .ok (.bipush 10, 2) := by decide +kernel
theorem d_Mo_broken_12 : decode c_Mo_broken 12 = .ok (.if_icmp .ge 34, 3) := by decide +kernel
theorem d_Mo_broken_15 : decode c_Mo_broken 15 = .ok (.iload_n 1, 1) := by decide +kernel
theorem d_Mo_broken_16 : decode c_Mo_broken 16 = .ok (.aload_n 0, 1) := by decide +kernel
theorem d_Mo_broken_17 : decode c_Mo_broken 17 = .ok (.getfield 39, 3) := by decide +kernel
theorem d_Mo_broken_20 : decode c_Mo_broken 20 = .ok (.iload_n 2, 1) := by decide +kernel
theorem d_Mo_broken_21 : decode c_Mo_broken 21 = .ok (.iaload, 1) := by decide +kernel
theorem d_Mo_broken_22 : decode c_Mo_broken 22 = .ok (.ifCond .le 15, 3) := by decide +kernel
theorem d_Mo_broken_25 : decode c_Mo_broken 25 = .ok (.aload_n 0, 1) := by decide +kernel
theorem d_Mo_broken_26 : decode c_Mo_broken 26 = .ok (.iload_n 2, 1) := by decide +kernel
theorem d_Mo_broken_27 : decode c_Mo_broken 27 = .ok (.invokevirtual 194, 3) := by decide +kernel
theorem d_Mo_broken_30 : decode c_Mo_broken 30 = .ok (.ifCond .eq 7, 3) := by decide +kernel
theorem d_Mo_broken_33 : decode c_Mo_broken 33 = .ok (.iconst 1, 1) := by decide +kernel
theorem d_Mo_broken_34 : decode c_Mo_broken 34 = .ok (.goto 4, 3) := by decide +kernel
theorem d_Mo_broken_37 : decode c_Mo_broken 37 = .ok (.iconst 0, 1) := by decide +kernel
theorem d_Mo_broken_38 : decode c_Mo_broken 38 = .ok (.iadd, 1) := by decide +kernel
theorem d_Mo_broken_39 : decode c_Mo_broken 39 = .ok (.istore_n 1, 1) := by decide +kernel
theorem d_Mo_broken_40 : decode c_Mo_broken 40 = .ok (.iinc 2 1, 3) := by decide +kernel
theorem d_Mo_broken_43 : decode c_Mo_broken 43 = .ok (.goto (-34), 3) := by decide +kernel
theorem d_Mo_broken_46 : decode c_Mo_broken 46 = .ok (.iload_n 1, 1) := by decide +kernel
theorem d_Mo_broken_47 : decode c_Mo_broken 47 = .ok (.ireturn, 1) := by decide +kernel
end
section
theorem d_La_law_0 : decode code 0 = .ok (.new 7, 3) := by decide +kernel
theorem d_La_law_3 : decode code 3 = .ok (.dup, 1) := by decide +kernel
theorem d_La_law_4 : decode code 4 = .ok (.invokespecial 9, 3) := by decide +kernel
theorem d_La_law_7 : decode code 7 = .ok (.astore_n 1, 1) := by decide +kernel
theorem d_La_law_8 : decode code 8 = .ok (.new 10, 3) := by decide +kernel
theorem d_La_law_11 : decode code 11 = .ok (.dup, 1) := by decide +kernel
theorem d_La_law_12 : decode code 12 = .ok (.invokespecial 12, 3) := by decide +kernel
theorem d_La_law_15 : decode code 15 = .ok (.astore_n 2, 1) := by decide +kernel
theorem d_La_law_16 : decode code 16 = .ok (.iconst 0, 1) := by decide +kernel
theorem d_La_law_17 : decode code 17 = .ok (.istore_n 3, 1) := by decide +kernel
theorem d_La_law_18 : decode code 18 = .ok (.iload_n 3, 1) := by decide +kernel
theorem d_La_law_19 : decode code 19 = .ok (.aload_n 0, 1) := by decide +kernel
theorem d_La_law_20 : decode code 20 = .ok (.arraylength, 1) := by decide +kernel
theorem d_La_law_21 : decode code 21 = .ok (.iconst 4, 1) := by decide +kernel
theorem d_La_law_22 : decode code 22 = .ok (.isub, 1) := by decide +kernel
theorem d_La_law_23 : decode code 23 = .ok (.if_icmp .gt 473, 3) := by decide +kernel
theorem d_La_law_26 : decode code 26 = .ok (.aload_n 0, 1) := by decide +kernel
theorem d_La_law_27 : decode code 27 = .ok (.iload_n 3, 1) := by decide +kernel
theorem d_La_law_28 : decode code 28 = .ok (.iaload, 1) := by decide +kernel
theorem d_La_law_29 : decode code 29 = .ok (.bipush 15, 2) := by decide +kernel
theorem d_La_law_31 : decode code 31 = .ok (.iand, 1) := by decide +kernel
theorem d_La_law_32 : decode code 32 = .ok (.tableswitch 458 0 13 #[72, 93, 106, 155, 178, 211, 224, 277, 320, 343, 366, 389, 412, 445], 72) := by decide +kernel
theorem d_La_law_104 : decode code 104 = .ok (.aload_n 1, 1) := by decide +kernel
theorem d_La_law_105 : decode code 105 = .ok (.aload_n 0, 1) := by decide +kernel
theorem d_La_law_106 : decode code 106 = .ok (.iload_n 3, 1) := by decide +kernel
theorem d_La_law_107 : decode code 107 = .ok (.iconst 1, 1) := by decide +kernel
theorem d_La_law_108 : decode code 108 = .ok (.iadd, 1) := by decide +kernel
theorem d_La_law_109 : decode code 109 = .ok (.iaload, 1) := by decide +kernel
theorem d_La_law_110 : decode code 110 = .ok (.invokevirtual 13, 3) := by decide +kernel
theorem d_La_law_113 : decode code 113 = .ok (.aload_n 2, 1) := by decide +kernel
theorem d_La_law_114 : decode code 114 = .ok (.aload_n 0, 1) := by decide +kernel
theorem d_La_law_115 : decode code 115 = .ok (.iload_n 3, 1) := by decide +kernel
theorem d_La_law_116 : decode code 116 = .ok (.iconst 1, 1) := by decide +kernel
theorem d_La_law_117 : decode code 117 = .ok (.iadd, 1) := by decide +kernel
theorem d_La_law_118 : decode code 118 = .ok (.iaload, 1) := by decide +kernel
theorem d_La_law_119 : decode code 119 = .ok (.invokevirtual 17, 3) := by decide +kernel
theorem d_La_law_122 : decode code 122 = .ok (.goto 368, 3) := by decide +kernel
theorem d_La_law_125 : decode code 125 = .ok (.aload_n 1, 1) := by decide +kernel
theorem d_La_law_126 : decode code 126 = .ok (.invokevirtual 18, 3) := by decide +kernel
theorem d_La_law_129 : decode code 129 = .ok (.aload_n 2, 1) := by decide +kernel
theorem d_La_law_130 : decode code 130 = .ok (.invokevirtual 22, 3) := by decide +kernel
theorem d_La_law_133 : decode code 133 = .ok (.if_icmp .eq 357, 3) := by decide +kernel
theorem d_La_law_136 : decode code 136 = .ok (.iconst 0, 1) := by decide +kernel
theorem d_La_law_137 : decode code 137 = .ok (.ireturn, 1) := by decide +kernel
theorem d_La_law_138 : decode code 138 = .ok (.aload_n 1, 1) := by decide +kernel
theorem d_La_law_139 : decode code 139 = .ok (.aload_n 0, 1) := by decide +kernel
theorem d_La_law_140 : decode code 140 = .ok (.iload_n 3, 1) := by decide +kernel
theorem d_La_law_141 : decode code 141 = .ok (.iconst 1, 1) := by decide +kernel
theorem d_La_law_142 : decode code 142 = .ok (.iadd, 1) := by decide +kernel
theorem d_La_law_143 : decode code 143 = .ok (.iaload, 1) := by decide +kernel
theorem d_La_law_144 : decode code 144 = .ok (.aload_n 0, 1) := by decide +kernel
theorem d_La_law_145 : decode code 145 = .ok (.iload_n 3, 1) := by decide +kernel
theorem d_La_law_146 : decode code 146 = .ok (.iconst 2, 1) := by decide +kernel
theorem d_La_law_147 : decode code 147 = .ok (.iadd, 1) := by decide +kernel
theorem d_La_law_148 : decode code 148 = .ok (.iaload, 1) := by decide +kernel
theorem d_La_law_149 : decode code 149 = .ok (.ifCond .eq 7, 3) := by decide +kernel
theorem d_La_law_152 : decode code 152 = .ok (.iconst 1, 1) := by decide +kernel
theorem d_La_law_153 : decode code 153 = .ok (.goto 4, 3) := by decide +kernel
theorem d_La_law_156 : decode code 156 = .ok (.iconst 0, 1) := by decide +kernel
theorem d_La_law_157 : decode code 157 = .ok (.invokevirtual 23, 3) := by decide +kernel
theorem d_La_law_160 : decode code 160 = .ok (.aload_n 2, 1) := by decide +kernel
theorem d_La_law_161 : decode code 161 = .ok (.aload_n 0, 1) := by decide +kernel
theorem d_La_law_162 : decode code 162 = .ok (.iload_n 3, 1) := by decide +kernel
theorem d_La_law_163 : decode code 163 = .ok (.iconst 1, 1) := by decide +kernel
theorem d_La_law_164 : decode code 164 = .ok (.iadd, 1) := by decide +kernel
theorem d_La_law_165 : decode code 165 = .ok (.iaload, 1) := by decide +kernel
theorem d_La_law_166 : decode code 166 = .ok (.aload_n 0, 1) := by decide +kernel
theorem d_La_law_167 : decode code 167 = .ok (.iload_n 3, 1) := by decide +kernel
theorem d_La_law_168 : decode code 168 = .ok (.iconst 2, 1) := by decide +kernel
theorem d_La_law_169 : decode code 169 = .ok (.iadd, 1) := by decide +kernel
theorem d_La_law_170 : decode code 170 = .ok (.iaload, 1) := by decide +kernel
theorem d_La_law_171 : decode code 171 = .ok (.ifCond .eq 7, 3) := by decide +kernel
theorem d_La_law_174 : decode code 174 = .ok (.iconst 1, 1) := by decide +kernel
theorem d_La_law_175 : decode code 175 = .ok (.goto 4, 3) := by decide +kernel
theorem d_La_law_178 : decode code 178 = .ok (.iconst 0, 1) := by decide +kernel
theorem d_La_law_179 : decode code 179 = .ok (.invokevirtual 27, 3) := by decide +kernel
theorem d_La_law_182 : decode code 182 = .ok (.if_icmp .eq 308, 3) := by decide +kernel
theorem d_La_law_185 : decode code 185 = .ok (.iconst 0, 1) := by decide +kernel
theorem d_La_law_186 : decode code 186 = .ok (.ireturn, 1) := by decide +kernel
theorem d_La_law_187 : decode code 187 = .ok (.aload_n 1, 1) := by decide +kernel
theorem d_La_law_188 : decode code 188 = .ok (.aload_n 0, 1) := by decide +kernel
theorem d_La_law_189 : decode code 189 = .ok (.iload_n 3, 1) := by decide +kernel
theorem d_La_law_190 : decode code 190 = .ok (.iconst 1, 1) := by decide +kernel
theorem d_La_law_191 : decode code 191 = .ok (.iadd, 1) := by decide +kernel
theorem d_La_law_192 : decode code 192 = .ok (.iaload, 1) := by decide +kernel
theorem d_La_law_193 : decode code 193 = .ok (.invokevirtual 28, 3) := by decide +kernel
theorem d_La_law_196 : decode code 196 = .ok (.aload_n 2, 1) := by decide +kernel
theorem d_La_law_197 : decode code 197 = .ok (.aload_n 0, 1) := by decide +kernel
theorem d_La_law_198 : decode code 198 = .ok (.iload_n 3, 1) := by decide +kernel
theorem d_La_law_199 : decode code 199 = .ok (.iconst 1, 1) := by decide +kernel
theorem d_La_law_200 : decode code 200 = .ok (.iadd, 1) := by decide +kernel
theorem d_La_law_201 : decode code 201 = .ok (.iaload, 1) := by decide +kernel
theorem d_La_law_202 : decode code 202 = .ok (.invokevirtual 32, 3) := by decide +kernel
theorem d_La_law_205 : decode code 205 = .ok (.if_icmp .eq 285, 3) := by decide +kernel
theorem d_La_law_208 : decode code 208 = .ok (.iconst 0, 1) := by decide +kernel
theorem d_La_law_209 : decode code 209 = .ok (.ireturn, 1) := by decide +kernel
theorem d_La_law_210 : decode code 210 = .ok (.aload_n 1, 1) := by decide +kernel
theorem d_La_law_211 : decode code 211 = .ok (.aload_n 0, 1) := by decide +kernel
theorem d_La_law_212 : decode code 212 = .ok (.iload_n 3, 1) := by decide +kernel
theorem d_La_law_213 : decode code 213 = .ok (.iconst 1, 1) := by decide +kernel
theorem d_La_law_214 : decode code 214 = .ok (.iadd, 1) := by decide +kernel
theorem d_La_law_215 : decode code 215 = .ok (.iaload, 1) := by decide +kernel
theorem d_La_law_216 : decode code 216 = .ok (.aload_n 0, 1) := by decide +kernel
theorem d_La_law_217 : decode code 217 = .ok (.iload_n 3, 1) := by decide +kernel
theorem d_La_law_218 : decode code 218 = .ok (.iconst 2, 1) := by decide +kernel
theorem d_La_law_219 : decode code 219 = .ok (.iadd, 1) := by decide +kernel
theorem d_La_law_220 : decode code 220 = .ok (.iaload, 1) := by decide +kernel
theorem d_La_law_221 : decode code 221 = .ok (.invokevirtual 33, 3) := by decide +kernel
theorem d_La_law_224 : decode code 224 = .ok (.aload_n 2, 1) := by decide +kernel
theorem d_La_law_225 : decode code 225 = .ok (.aload_n 0, 1) := by decide +kernel
theorem d_La_law_226 : decode code 226 = .ok (.iload_n 3, 1) := by decide +kernel
theorem d_La_law_227 : decode code 227 = .ok (.iconst 1, 1) := by decide +kernel
theorem d_La_law_228 : decode code 228 = .ok (.iadd, 1) := by decide +kernel
theorem d_La_law_229 : decode code 229 = .ok (.iaload, 1) := by decide +kernel
theorem d_La_law_230 : decode code 230 = .ok (.aload_n 0, 1) := by decide +kernel
theorem d_La_law_231 : decode code 231 = .ok (.iload_n 3, 1) := by decide +kernel
theorem d_La_law_232 : decode code 232 = .ok (.iconst 2, 1) := by decide +kernel
theorem d_La_law_233 : decode code 233 = .ok (.iadd, 1) := by decide +kernel
theorem d_La_law_234 : decode code 234 = .ok (.iaload, 1) := by decide +kernel
theorem d_La_law_235 : decode code 235 = .ok (.invokevirtual 37, 3) := by decide +kernel
theorem d_La_law_238 : decode code 238 = .ok (.if_icmp .eq 252, 3) := by decide +kernel
theorem d_La_law_241 : decode code 241 = .ok (.iconst 0, 1) := by decide +kernel
theorem d_La_law_242 : decode code 242 = .ok (.ireturn, 1) := by decide +kernel
theorem d_La_law_243 : decode code 243 = .ok (.aload_n 1, 1) := by decide +kernel
theorem d_La_law_244 : decode code 244 = .ok (.invokevirtual 38, 3) := by decide +kernel
theorem d_La_law_247 : decode code 247 = .ok (.aload_n 2, 1) := by decide +kernel
theorem d_La_law_248 : decode code 248 = .ok (.invokevirtual 41, 3) := by decide +kernel
theorem d_La_law_251 : decode code 251 = .ok (.if_icmp .eq 239, 3) := by decide +kernel
theorem d_La_law_254 : decode code 254 = .ok (.iconst 0, 1) := by decide +kernel
theorem d_La_law_255 : decode code 255 = .ok (.ireturn, 1) := by decide +kernel
theorem d_La_law_256 : decode code 256 = .ok (.aload_n 1, 1) := by decide +kernel
theorem d_La_law_257 : decode code 257 = .ok (.aload_n 0, 1) := by decide +kernel
theorem d_La_law_258 : decode code 258 = .ok (.iload_n 3, 1) := by decide +kernel
theorem d_La_law_259 : decode code 259 = .ok (.iconst 1, 1) := by decide +kernel
theorem d_La_law_260 : decode code 260 = .ok (.iadd, 1) := by decide +kernel
theorem d_La_law_261 : decode code 261 = .ok (.iaload, 1) := by decide +kernel
theorem d_La_law_262 : decode code 262 = .ok (.i2l, 1) := by decide +kernel
theorem d_La_law_263 : decode code 263 = .ok (.bipush 32, 2) := by decide +kernel
theorem d_La_law_265 : decode code 265 = .ok (.lshl, 1) := by decide +kernel
theorem d_La_law_266 : decode code 266 = .ok (.aload_n 0, 1) := by decide +kernel
theorem d_La_law_267 : decode code 267 = .ok (.iload_n 3, 1) := by decide +kernel
theorem d_La_law_268 : decode code 268 = .ok (.iconst 2, 1) := by decide +kernel
theorem d_La_law_269 : decode code 269 = .ok (.iadd, 1) := by decide +kernel
theorem d_La_law_270 : decode code 270 = .ok (.iaload, 1) := by decide +kernel
theorem d_La_law_271 : decode code 271 = .ok (.i2l, 1) := by decide +kernel
theorem d_La_law_272 : decode code 272 = .ok (.ldc2_w 42, 3) := by decide +kernel
theorem d_La_law_275 : decode code 275 = .ok (.land, 1) := by decide +kernel
theorem d_La_law_276 : decode code 276 = .ok (.lor, 1) := by decide +kernel
theorem d_La_law_277 : decode code 277 = .ok (.invokevirtual 44, 3) := by decide +kernel
theorem d_La_law_280 : decode code 280 = .ok (.aload_n 2, 1) := by decide +kernel
theorem d_La_law_281 : decode code 281 = .ok (.aload_n 0, 1) := by decide +kernel
theorem d_La_law_282 : decode code 282 = .ok (.iload_n 3, 1) := by decide +kernel
theorem d_La_law_283 : decode code 283 = .ok (.iconst 1, 1) := by decide +kernel
theorem d_La_law_284 : decode code 284 = .ok (.iadd, 1) := by decide +kernel
theorem d_La_law_285 : decode code 285 = .ok (.iaload, 1) := by decide +kernel
theorem d_La_law_286 : decode code 286 = .ok (.i2l, 1) := by decide +kernel
theorem d_La_law_287 : decode code 287 = .ok (.bipush 32, 2) := by decide +kernel
theorem d_La_law_289 : decode code 289 = .ok (.lshl, 1) := by decide +kernel
theorem d_La_law_290 : decode code 290 = .ok (.aload_n 0, 1) := by decide +kernel
theorem d_La_law_291 : decode code 291 = .ok (.iload_n 3, 1) := by decide +kernel
theorem d_La_law_292 : decode code 292 = .ok (.iconst 2, 1) := by decide +kernel
theorem d_La_law_293 : decode code 293 = .ok (.iadd, 1) := by decide +kernel
theorem d_La_law_294 : decode code 294 = .ok (.iaload, 1) := by decide +kernel
theorem d_La_law_295 : decode code 295 = .ok (.i2l, 1) := by decide +kernel
theorem d_La_law_296 : decode code 296 = .ok (.ldc2_w 42, 3) := by decide +kernel
theorem d_La_law_299 : decode code 299 = .ok (.land, 1) := by decide +kernel
theorem d_La_law_300 : decode code 300 = .ok (.lor, 1) := by decide +kernel
theorem d_La_law_301 : decode code 301 = .ok (.invokevirtual 48, 3) := by decide +kernel
theorem d_La_law_304 : decode code 304 = .ok (.if_icmp .eq 186, 3) := by decide +kernel
theorem d_La_law_307 : decode code 307 = .ok (.iconst 0, 1) := by decide +kernel
theorem d_La_law_308 : decode code 308 = .ok (.ireturn, 1) := by decide +kernel
theorem d_La_law_309 : decode code 309 = .ok (.aload_n 1, 1) := by decide +kernel
theorem d_La_law_310 : decode code 310 = .ok (.aload_n 0, 1) := by decide +kernel
theorem d_La_law_311 : decode code 311 = .ok (.iload_n 3, 1) := by decide +kernel
theorem d_La_law_312 : decode code 312 = .ok (.iconst 1, 1) := by decide +kernel
theorem d_La_law_313 : decode code 313 = .ok (.iadd, 1) := by decide +kernel
theorem d_La_law_314 : decode code 314 = .ok (.iaload, 1) := by decide +kernel
theorem d_La_law_315 : decode code 315 = .ok (.aload_n 0, 1) := by decide +kernel
theorem d_La_law_316 : decode code 316 = .ok (.iload_n 3, 1) := by decide +kernel
theorem d_La_law_317 : decode code 317 = .ok (.iconst 2, 1) := by decide +kernel
theorem d_La_law_318 : decode code 318 = .ok (.iadd, 1) := by decide +kernel
theorem d_La_law_319 : decode code 319 = .ok (.iaload, 1) := by decide +kernel
theorem d_La_law_320 : decode code 320 = .ok (.aload_n 0, 1) := by decide +kernel
theorem d_La_law_321 : decode code 321 = .ok (.iload_n 3, 1) := by decide +kernel
theorem d_La_law_322 : decode code 322 = .ok (.iconst 3, 1) := by decide +kernel
theorem d_La_law_323 : decode code 323 = .ok (.iadd, 1) := by decide +kernel
theorem d_La_law_324 : decode code 324 = .ok (.iaload, 1) := by decide +kernel
theorem d_La_law_325 : decode code 325 = .ok (.invokevirtual 49, 3) := by decide +kernel
theorem d_La_law_328 : decode code 328 = .ok (.aload_n 2, 1) := by decide +kernel
theorem d_La_law_329 : decode code 329 = .ok (.aload_n 0, 1) := by decide +kernel
theorem d_La_law_330 : decode code 330 = .ok (.iload_n 3, 1) := by decide +kernel
theorem d_La_law_331 : decode code 331 = .ok (.iconst 1, 1) := by decide +kernel
theorem d_La_law_332 : decode code 332 = .ok (.iadd, 1) := by decide +kernel
theorem d_La_law_333 : decode code 333 = .ok (.iaload, 1) := by decide +kernel
theorem d_La_law_334 : decode code 334 = .ok (.aload_n 0, 1) := by decide +kernel
theorem d_La_law_335 : decode code 335 = .ok (.iload_n 3, 1) := by decide +kernel
theorem d_La_law_336 : decode code 336 = .ok (.iconst 2, 1) := by decide +kernel
theorem d_La_law_337 : decode code 337 = .ok (.iadd, 1) := by decide +kernel
theorem d_La_law_338 : decode code 338 = .ok (.iaload, 1) := by decide +kernel
theorem d_La_law_339 : decode code 339 = .ok (.aload_n 0, 1) := by decide +kernel
theorem d_La_law_340 : decode code 340 = .ok (.iload_n 3, 1) := by decide +kernel
theorem d_La_law_341 : decode code 341 = .ok (.iconst 3, 1) := by decide +kernel
theorem d_La_law_342 : decode code 342 = .ok (.iadd, 1) := by decide +kernel
theorem d_La_law_343 : decode code 343 = .ok (.iaload, 1) := by decide +kernel
theorem d_La_law_344 : decode code 344 = .ok (.invokevirtual 53, 3) := by decide +kernel
theorem d_La_law_347 : decode code 347 = .ok (.if_icmp .eq 143, 3) := by decide +kernel
theorem d_La_law_350 : decode code 350 = .ok (.iconst 0, 1) := by decide +kernel
theorem d_La_law_351 : decode code 351 = .ok (.ireturn, 1) := by decide +kernel
theorem d_La_law_352 : decode code 352 = .ok (.aload_n 1, 1) := by decide +kernel
theorem d_La_law_353 : decode code 353 = .ok (.aload_n 0, 1) := by decide +kernel
theorem d_La_law_354 : decode code 354 = .ok (.iload_n 3, 1) := by decide +kernel
theorem d_La_law_355 : decode code 355 = .ok (.iconst 1, 1) := by decide +kernel
theorem d_La_law_356 : decode code 356 = .ok (.iadd, 1) := by decide +kernel
theorem d_La_law_357 : decode code 357 = .ok (.iaload, 1) := by decide +kernel
theorem d_La_law_358 : decode code 358 = .ok (.invokevirtual 54, 3) := by decide +kernel
theorem d_La_law_361 : decode code 361 = .ok (.aload_n 2, 1) := by decide +kernel
theorem d_La_law_362 : decode code 362 = .ok (.aload_n 0, 1) := by decide +kernel
theorem d_La_law_363 : decode code 363 = .ok (.iload_n 3, 1) := by decide +kernel
theorem d_La_law_364 : decode code 364 = .ok (.iconst 1, 1) := by decide +kernel
theorem d_La_law_365 : decode code 365 = .ok (.iadd, 1) := by decide +kernel
theorem d_La_law_366 : decode code 366 = .ok (.iaload, 1) := by decide +kernel
theorem d_La_law_367 : decode code 367 = .ok (.invokevirtual 57, 3) := by decide +kernel
theorem d_La_law_370 : decode code 370 = .ok (.if_icmp .eq 120, 3) := by decide +kernel
theorem d_La_law_373 : decode code 373 = .ok (.iconst 0, 1) := by decide +kernel
theorem d_La_law_374 : decode code 374 = .ok (.ireturn, 1) := by decide +kernel
theorem d_La_law_375 : decode code 375 = .ok (.aload_n 1, 1) := by decide +kernel
theorem d_La_law_376 : decode code 376 = .ok (.aload_n 0, 1) := by decide +kernel
theorem d_La_law_377 : decode code 377 = .ok (.iload_n 3, 1) := by decide +kernel
theorem d_La_law_378 : decode code 378 = .ok (.iconst 1, 1) := by decide +kernel
theorem d_La_law_379 : decode code 379 = .ok (.iadd, 1) := by decide +kernel
theorem d_La_law_380 : decode code 380 = .ok (.iaload, 1) := by decide +kernel
theorem d_La_law_381 : decode code 381 = .ok (.invokevirtual 58, 3) := by decide +kernel
theorem d_La_law_384 : decode code 384 = .ok (.aload_n 2, 1) := by decide +kernel
theorem d_La_law_385 : decode code 385 = .ok (.aload_n 0, 1) := by decide +kernel
theorem d_La_law_386 : decode code 386 = .ok (.iload_n 3, 1) := by decide +kernel
theorem d_La_law_387 : decode code 387 = .ok (.iconst 1, 1) := by decide +kernel
theorem d_La_law_388 : decode code 388 = .ok (.iadd, 1) := by decide +kernel
theorem d_La_law_389 : decode code 389 = .ok (.iaload, 1) := by decide +kernel
theorem d_La_law_390 : decode code 390 = .ok (.invokevirtual 61, 3) := by decide +kernel
theorem d_La_law_393 : decode code 393 = .ok (.if_icmp .eq 97, 3) := by decide +kernel
theorem d_La_law_396 : decode code 396 = .ok (.iconst 0, 1) := by decide +kernel
theorem d_La_law_397 : decode code 397 = .ok (.ireturn, 1) := by decide +kernel
theorem d_La_law_398 : decode code 398 = .ok (.aload_n 1, 1) := by decide +kernel
theorem d_La_law_399 : decode code 399 = .ok (.aload_n 0, 1) := by decide +kernel
theorem d_La_law_400 : decode code 400 = .ok (.iload_n 3, 1) := by decide +kernel
theorem d_La_law_401 : decode code 401 = .ok (.iconst 1, 1) := by decide +kernel
theorem d_La_law_402 : decode code 402 = .ok (.iadd, 1) := by decide +kernel
theorem d_La_law_403 : decode code 403 = .ok (.iaload, 1) := by decide +kernel
theorem d_La_law_404 : decode code 404 = .ok (.invokevirtual 62, 3) := by decide +kernel
theorem d_La_law_407 : decode code 407 = .ok (.aload_n 2, 1) := by decide +kernel
theorem d_La_law_408 : decode code 408 = .ok (.aload_n 0, 1) := by decide +kernel
theorem d_La_law_409 : decode code 409 = .ok (.iload_n 3, 1) := by decide +kernel
theorem d_La_law_410 : decode code 410 = .ok (.iconst 1, 1) := by decide +kernel
theorem d_La_law_411 : decode code 411 = .ok (.iadd, 1) := by decide +kernel
theorem d_La_law_412 : decode code 412 = .ok (.iaload, 1) := by decide +kernel
theorem d_La_law_413 : decode code 413 = .ok (.invokevirtual 65, 3) := by decide +kernel
theorem d_La_law_416 : decode code 416 = .ok (.if_icmp .eq 74, 3) := by decide +kernel
theorem d_La_law_419 : decode code 419 = .ok (.iconst 0, 1) := by decide +kernel
theorem d_La_law_420 : decode code 420 = .ok (.ireturn, 1) := by decide +kernel
theorem d_La_law_421 : decode code 421 = .ok (.aload_n 1, 1) := by decide +kernel
theorem d_La_law_422 : decode code 422 = .ok (.aload_n 0, 1) := by decide +kernel
theorem d_La_law_423 : decode code 423 = .ok (.iload_n 3, 1) := by decide +kernel
theorem d_La_law_424 : decode code 424 = .ok (.iconst 1, 1) := by decide +kernel
theorem d_La_law_425 : decode code 425 = .ok (.iadd, 1) := by decide +kernel
theorem d_La_law_426 : decode code 426 = .ok (.iaload, 1) := by decide +kernel
theorem d_La_law_427 : decode code 427 = .ok (.invokevirtual 66, 3) := by decide +kernel
theorem d_La_law_430 : decode code 430 = .ok (.aload_n 2, 1) := by decide +kernel
theorem d_La_law_431 : decode code 431 = .ok (.aload_n 0, 1) := by decide +kernel
theorem d_La_law_432 : decode code 432 = .ok (.iload_n 3, 1) := by decide +kernel
theorem d_La_law_433 : decode code 433 = .ok (.iconst 1, 1) := by decide +kernel
theorem d_La_law_434 : decode code 434 = .ok (.iadd, 1) := by decide +kernel
theorem d_La_law_435 : decode code 435 = .ok (.iaload, 1) := by decide +kernel
theorem d_La_law_436 : decode code 436 = .ok (.invokevirtual 69, 3) := by decide +kernel
theorem d_La_law_439 : decode code 439 = .ok (.if_icmp .eq 51, 3) := by decide +kernel
theorem d_La_law_442 : decode code 442 = .ok (.iconst 0, 1) := by decide +kernel
theorem d_La_law_443 : decode code 443 = .ok (.ireturn, 1) := by decide +kernel
theorem d_La_law_444 : decode code 444 = .ok (.aload_n 1, 1) := by decide +kernel
theorem d_La_law_445 : decode code 445 = .ok (.aload_n 0, 1) := by decide +kernel
theorem d_La_law_446 : decode code 446 = .ok (.iload_n 3, 1) := by decide +kernel
theorem d_La_law_447 : decode code 447 = .ok (.iconst 1, 1) := by decide +kernel
theorem d_La_law_448 : decode code 448 = .ok (.iadd, 1) := by decide +kernel
theorem d_La_law_449 : decode code 449 = .ok (.iaload, 1) := by decide +kernel
theorem d_La_law_450 : decode code 450 = .ok (.aload_n 0, 1) := by decide +kernel
theorem d_La_law_451 : decode code 451 = .ok (.iload_n 3, 1) := by decide +kernel
theorem d_La_law_452 : decode code 452 = .ok (.iconst 2, 1) := by decide +kernel
theorem d_La_law_453 : decode code 453 = .ok (.iadd, 1) := by decide +kernel
theorem d_La_law_454 : decode code 454 = .ok (.iaload, 1) := by decide +kernel
theorem d_La_law_455 : decode code 455 = .ok (.invokevirtual 70, 3) := by decide +kernel
theorem d_La_law_458 : decode code 458 = .ok (.aload_n 2, 1) := by decide +kernel
theorem d_La_law_459 : decode code 459 = .ok (.aload_n 0, 1) := by decide +kernel
theorem d_La_law_460 : decode code 460 = .ok (.iload_n 3, 1) := by decide +kernel
theorem d_La_law_461 : decode code 461 = .ok (.iconst 1, 1) := by decide +kernel
theorem d_La_law_462 : decode code 462 = .ok (.iadd, 1) := by decide +kernel
theorem d_La_law_463 : decode code 463 = .ok (.iaload, 1) := by decide +kernel
theorem d_La_law_464 : decode code 464 = .ok (.aload_n 0, 1) := by decide +kernel
theorem d_La_law_465 : decode code 465 = .ok (.iload_n 3, 1) := by decide +kernel
theorem d_La_law_466 : decode code 466 = .ok (.iconst 2, 1) := by decide +kernel
theorem d_La_law_467 : decode code 467 = .ok (.iadd, 1) := by decide +kernel
theorem d_La_law_468 : decode code 468 = .ok (.iaload, 1) := by decide +kernel
theorem d_La_law_469 : decode code 469 = .ok (.invokevirtual 74, 3) := by decide +kernel
theorem d_La_law_472 : decode code 472 = .ok (.if_icmp .eq 18, 3) := by decide +kernel
theorem d_La_law_475 : decode code 475 = .ok (.iconst 0, 1) := by decide +kernel
theorem d_La_law_476 : decode code 476 = .ok (.ireturn, 1) := by decide +kernel
theorem d_La_law_477 : decode code 477 = .ok (.aload_n 1, 1) := by decide +kernel
theorem d_La_law_478 : decode code 478 = .ok (.invokevirtual 75, 3) := by decide +kernel
theorem d_La_law_481 : decode code 481 = .ok (.aload_n 2, 1) := by decide +kernel
theorem d_La_law_482 : decode code 482 = .ok (.invokevirtual 78, 3) := by decide +kernel
theorem d_La_law_485 : decode code 485 = .ok (.if_icmp .eq 5, 3) := by decide +kernel
theorem d_La_law_488 : decode code 488 = .ok (.iconst 0, 1) := by decide +kernel
theorem d_La_law_489 : decode code 489 = .ok (.ireturn, 1) := by decide +kernel
theorem d_La_law_490 : decode code 490 = .ok (.iinc 3 4, 3) := by decide +kernel
theorem d_La_law_493 : decode code 493 = .ok (.goto (-475), 3) := by decide +kernel
theorem d_La_law_496 : decode code 496 = .ok (.iconst 1, 1) := by decide +kernel
theorem d_La_law_497 : decode code 497 = .ok (.ireturn, 1) := by decide +kernel
end
section
/-! ===== rows that came later ===== -/
theorem z_ifeqD {x : ZC} {l : Launch} {g : ZG} {R : Room} {cc : ByteArray} {nL : Nat} {own : String} {u : Nat × Nat} {w : va_W} {pc : Nat} {lv : List (Nat × Value)} {st : List Value} (hC : zO x l g R cc nL own) {P : Prop} [Decidable P] {off : Int} {tgt : Nat} (hd : decode cc pc = .ok (.ifCond .eq off, 3)) (ht : (pc : Int) + off = (tgt : Int)) (kt : ¬ P → Z x u w tgt lv st) (kf : P → Z x u w (pc + 3) lv st) : Z x u w pc lv (.int (iI (bI (decide P))) :: st) :=
  z_ifeqB hC hd ht (fun z => kt (of_decide_eq_false z)) (fun z => kf (of_decide_eq_true z))
theorem z_ifneD {x : ZC} {l : Launch} {g : ZG} {R : Room} {cc : ByteArray} {nL : Nat} {own : String} {u : Nat × Nat} {w : va_W} {pc : Nat} {lv : List (Nat × Value)} {st : List Value} (hC : zO x l g R cc nL own) {P : Prop} [Decidable P] {off : Int} {tgt : Nat} (hd : decode cc pc = .ok (.ifCond .ne off, 3)) (ht : (pc : Int) + off = (tgt : Int)) (kt : P → Z x u w tgt lv st) (kf : ¬ P → Z x u w (pc + 3) lv st) : Z x u w pc lv (.int (iI (bI (decide P))) :: st) :=
  z_ifneB hC hd ht (fun z => kt (of_decide_eq_true z)) (fun z => kf (of_decide_eq_false z))
/-! ===== what the class's small methods answer ===== -/
/-- the sign at a place, or -1 -/
def sN (n : Nat) (f : Nat → Int32) (k : Nat) : Int32 := if k < n then f k else iI (-1)
def isL (c : Int32) : Bool := decide (97 ≤ c.toInt ∧ c.toInt ≤ 122)
def isD (c : Int32) : Bool := decide (48 ≤ c.toInt ∧ c.toInt ≤ 57)
/-- the end of a row of small letters -/
def rowE (n : Nat) (f : Nat → Int32) : Nat → Nat → Nat
  | 0, e => e
  | k + 1, e => if e < n ∧ isL (sN n f e) = true then rowE n f k (e + 1) else e
theorem rowE_go {n : Nat} {f : Nat → Int32} {e : Nat} (h : e < n) (hl : isL (sN n f e) = true) : rowE n f (n - (e + 1)) (e + 1) = rowE n f (n - e) e := by
  rw [show n - e = (n - (e + 1)) + 1 by omega]
  simp only [rowE]
  rw [if_pos ⟨h, hl⟩]
theorem rowE_out {n : Nat} {f : Nat → Int32} {e : Nat} (h : n ≤ e) : rowE n f (n - e) e = e := by
  rw [show n - e = 0 by omega]
  rfl
theorem rowE_no {n : Nat} {f : Nat → Int32} {e : Nat} (hl : isL (sN n f e) = false) : rowE n f (n - e) e = e := by
  cases n - e with
  | zero => rfl
  | succ k =>
    simp only [rowE]
    rw [if_neg]
    intro q
    rw [hl] at q
    exact absurd q.2 (by decide)
/-- up to k digits more -/
def tvL (n : Nat) (f : Nat → Int32) : Nat → Int → Nat → Int × Nat
  | 0, v, p => (v, p)
  | k + 1, v, p => if isD (sN n f p) = true then tvL n f k (v * 10 + (sN n f p).toInt - 48) (p + 1) else (v, p)
set_option maxHeartbeats 4000000 in
set_option maxRecDepth 100000 in
theorem k_So_isSmallLetter (l : Launch) (g : ZG) (c : Int32)   : Ct l g y_So_isSmallLetter c_So_isSmallLetter 1 (some .boolean) { frames := 0, cells := 0, slots := 0, locals := 0 } [.int c] [] (some (.int (iI (bI (isL c))))) [] := by
  refine ct_z (lv := [(0, .int c)]) (by decide) rfl (Nat.le_of_ble_eq_true rfl) rfl ?_
  intro x hC hR
  refine z_iload_n hC d_So_isSmallLetter_0 rfl 0 rfl ?_
  refine z_bipush (a := ((97 : Nat) : Int)) hC d_So_isSmallLetter_1 (by decide) ?_
  refine z_icmp_lt (tgt := 16) hC ((c : Int32).toInt) ((97 : Nat) : Int) d_So_isSmallLetter_3 rfl rfl (iI_t (by omega)) (fun c_1 => ?_) (fun c_1 => ?_)
  · refine z_iconstN hC 0 d_So_isSmallLetter_16 rfl ?_
    exact Z.eq rfl rfl rfl (zb_f (by first | exact decide_eq_true (by omega) | exact decide_eq_false (by omega))) (hR _ _ d_So_isSmallLetter_17)
  · refine z_iload_n hC d_So_isSmallLetter_6 rfl 0 rfl ?_
    refine z_bipush (a := ((122 : Nat) : Int)) hC d_So_isSmallLetter_7 (by decide) ?_
    refine z_icmp_gt (tgt := 16) hC ((c : Int32).toInt) ((122 : Nat) : Int) d_So_isSmallLetter_9 rfl rfl (iI_t (by omega)) (fun c_2 => ?_) (fun c_2 => ?_)
    · refine z_iconstN hC 0 d_So_isSmallLetter_16 rfl ?_
      exact Z.eq rfl rfl rfl (zb_f (by first | exact decide_eq_true (by omega) | exact decide_eq_false (by omega))) (hR _ _ d_So_isSmallLetter_17)
    · refine z_iconstN hC 1 d_So_isSmallLetter_12 rfl ?_
      refine z_goto (tgt := 17) hC d_So_isSmallLetter_13 rfl ?_
      exact Z.eq rfl rfl rfl (zb_t (by first | exact decide_eq_true (by omega) | exact decide_eq_false (by omega))) (hR _ _ d_So_isSmallLetter_17)
set_option maxHeartbeats 4000000 in
set_option maxRecDepth 100000 in
theorem k_So_isDigit (l : Launch) (g : ZG) (c : Int32)   : Ct l g y_So_isDigit c_So_isDigit 1 (some .boolean) { frames := 0, cells := 0, slots := 0, locals := 0 } [.int c] [] (some (.int (iI (bI (isD c))))) [] := by
  refine ct_z (lv := [(0, .int c)]) (by decide) rfl (Nat.le_of_ble_eq_true rfl) rfl ?_
  intro x hC hR
  refine z_iload_n hC d_So_isDigit_0 rfl 0 rfl ?_
  refine z_bipush (a := ((48 : Nat) : Int)) hC d_So_isDigit_1 (by decide) ?_
  refine z_icmp_lt (tgt := 16) hC ((c : Int32).toInt) ((48 : Nat) : Int) d_So_isDigit_3 rfl rfl (iI_t (by omega)) (fun c_1 => ?_) (fun c_1 => ?_)
  · refine z_iconstN hC 0 d_So_isDigit_16 rfl ?_
    exact Z.eq rfl rfl rfl (zb_f (by first | exact decide_eq_true (by omega) | exact decide_eq_false (by omega))) (hR _ _ d_So_isDigit_17)
  · refine z_iload_n hC d_So_isDigit_6 rfl 0 rfl ?_
    refine z_bipush (a := ((57 : Nat) : Int)) hC d_So_isDigit_7 (by decide) ?_
    refine z_icmp_gt (tgt := 16) hC ((c : Int32).toInt) ((57 : Nat) : Int) d_So_isDigit_9 rfl rfl (iI_t (by omega)) (fun c_2 => ?_) (fun c_2 => ?_)
    · refine z_iconstN hC 0 d_So_isDigit_16 rfl ?_
      exact Z.eq rfl rfl rfl (zb_f (by first | exact decide_eq_true (by omega) | exact decide_eq_false (by omega))) (hR _ _ d_So_isDigit_17)
    · refine z_iconstN hC 1 d_So_isDigit_12 rfl ?_
      refine z_goto (tgt := 17) hC d_So_isDigit_13 rfl ?_
      exact Z.eq rfl rfl rfl (zb_t (by first | exact decide_eq_true (by omega) | exact decide_eq_false (by omega))) (hR _ _ d_So_isDigit_17)
set_option maxHeartbeats 4000000 in
set_option maxRecDepth 100000 in
theorem k_So_collect (l : Launch) (g : ZG) (s0 s1 sn sp : Nat) (sf : Nat → Int32) (c : Int32) (hsn : sn ≤ 200)  : Ct l g y_So_collect c_So_collect 2 none { frames := 0, cells := 0, slots := 0, locals := 0 } [.ref s0, .int c] [(s0, .inr (6, [.ref s1, .int (iI ((sn : Nat) : Int)), .int (iI ((sp : Nat) : Int))])), (s1, .inl ((g.2.1 0), 200, .inl sf))] none [(s0, .inr (6, [.ref s1, .int (iI ((if sn < 200 then sn + 1 else sn : Nat) : Int)), .int (iI ((sp : Nat) : Int))])), (s1, .inl ((g.2.1 0), 200, .inl (if sn < 200 then upd sf sn c else sf)))] := by
  refine ct_v (lv := [(0, .ref s0), (1, .int c)]) (by decide) rfl (Nat.le_of_ble_eq_true rfl) rfl ?_
  intro x hC hR
  refine z_aload_n hC d_So_collect_0 rfl 0 rfl ?_
  refine z_get hC hi_So 0 rfl rfl 1 (by decide) mw_79 (Or.inl rfl) rfl d_So_collect_1 ?_
  refine z_if_lt (tgt := 37) hC ((sn : Nat) : Int) d_So_collect_4 rfl (iI_t (by omega)) (fun c_1 => ?_) (fun c_1 => ?_)
  · exact Z.eq (by first | rfl | (exfalso; omega) | (rw [if_pos (by omega)]; done) | (rw [if_neg (by omega)]; done) | (rw [if_pos (by omega), if_pos (by omega)]) | (rw [if_neg (by omega), if_neg (by omega)])  ) rfl rfl rfl (hR _ _ d_So_collect_37)
  · refine z_aload_n hC d_So_collect_7 rfl 0 rfl ?_
    refine z_get hC hi_So 0 rfl rfl 1 (by decide) mw_79 (Or.inl rfl) rfl d_So_collect_8 ?_
    refine z_sipush (a := ((200 : Nat) : Int)) hC d_So_collect_11 (by decide) ?_
    refine z_icmp_ge (tgt := 37) hC ((sn : Nat) : Int) ((200 : Nat) : Int) d_So_collect_14 rfl (iI_t (by omega)) (iI_t (by omega)) (fun c_2 => ?_) (fun c_2 => ?_)
    · exact Z.eq (by first | rfl | (exfalso; omega) | (rw [if_pos (by omega)]; done) | (rw [if_neg (by omega)]; done) | (rw [if_pos (by omega), if_pos (by omega)]) | (rw [if_neg (by omega), if_neg (by omega)])  ) rfl rfl rfl (hR _ _ d_So_collect_37)
    · refine z_aload_n hC d_So_collect_17 rfl 0 rfl ?_
      refine z_get hC hi_So 0 rfl rfl 0 (by decide) mw_78 (Or.inl rfl) rfl d_So_collect_18 ?_
      refine z_aload_n hC d_So_collect_21 rfl 0 rfl ?_
      refine z_get hC hi_So 0 rfl rfl 1 (by decide) mw_79 (Or.inl rfl) rfl d_So_collect_22 ?_
      refine z_iload_n hC d_So_collect_25 rfl 1 rfl ?_
      refine z_iast (v := c) (w' := [(s0, .inr (6, [.ref s1, .int (iI ((sn : Nat) : Int)), .int (iI ((sp : Nat) : Int))])), (s1, .inl ((g.2.1 0), 200, .inl (upd sf sn c)))]) hC 1 0 rfl rfl sn rfl (by omega) (by decide) rfl d_So_collect_26 ?_
      refine z_aload_n hC d_So_collect_27 rfl 0 rfl ?_
      refine z_dup hC d_So_collect_28 rfl ?_
      refine z_get hC hi_So 0 rfl rfl 1 (by decide) mw_79 (Or.inl rfl) rfl d_So_collect_29 ?_
      refine z_iconstN hC 1 d_So_collect_32 rfl ?_
      refine z_iaddN hC d_So_collect_33 ?_
      refine z_put (v := .int (iI ((sn + 1 : Nat) : Int))) (ty := .int) (w' := [(s0, .inr (6, [.ref s1, .int (iI ((sn + 1 : Nat) : Int)), .int (iI ((sp : Nat) : Int))])), (s1, .inl ((g.2.1 0), 200, .inl (upd sf sn c)))]) hC hi_So ty_So ok_So nm_So 0 rfl rfl 1 (by decide) mw_79 rfl rfl rfl rfl rfl (Nat.le_of_ble_eq_true rfl) rfl d_So_collect_34 ?_
      exact Z.eq (by first | rfl | (exfalso; omega) | (rw [if_pos (by omega)]; done) | (rw [if_neg (by omega)]; done) | (rw [if_pos (by omega), if_pos (by omega)]) | (rw [if_neg (by omega), if_neg (by omega)])  ) rfl rfl rfl (hR _ _ d_So_collect_37)
set_option maxHeartbeats 4000000 in
set_option maxRecDepth 100000 in
theorem k_So_clear (l : Launch) (g : ZG) (s0 s1 sn sp : Nat) (sf : Nat → Int32)   : Ct l g y_So_clear c_So_clear 1 none { frames := 0, cells := 0, slots := 0, locals := 0 } [.ref s0] [(s0, .inr (6, [.ref s1, .int (iI ((sn : Nat) : Int)), .int (iI ((sp : Nat) : Int))])), (s1, .inl ((g.2.1 0), 200, .inl sf))] none [(s0, .inr (6, [.ref s1, .int (iI ((0 : Nat) : Int)), .int (iI ((0 : Nat) : Int))])), (s1, .inl ((g.2.1 0), 200, .inl sf))] := by
  refine ct_v (lv := [(0, .ref s0)]) (by decide) rfl (Nat.le_of_ble_eq_true rfl) rfl ?_
  intro x hC hR
  refine z_aload_n hC d_So_clear_0 rfl 0 rfl ?_
  refine z_iconstN hC 0 d_So_clear_1 rfl ?_
  refine z_put (v := .int (iI ((0 : Nat) : Int))) (ty := .int) (w' := [(s0, .inr (6, [.ref s1, .int (iI ((0 : Nat) : Int)), .int (iI ((sp : Nat) : Int))])), (s1, .inl ((g.2.1 0), 200, .inl sf))]) hC hi_So ty_So ok_So nm_So 0 rfl rfl 1 (by decide) mw_79 rfl rfl rfl rfl rfl (Nat.le_of_ble_eq_true rfl) rfl d_So_clear_2 ?_
  refine z_aload_n hC d_So_clear_5 rfl 0 rfl ?_
  refine z_iconstN hC 0 d_So_clear_6 rfl ?_
  refine z_put (v := .int (iI ((0 : Nat) : Int))) (ty := .int) (w' := [(s0, .inr (6, [.ref s1, .int (iI ((0 : Nat) : Int)), .int (iI ((0 : Nat) : Int))])), (s1, .inl ((g.2.1 0), 200, .inl sf))]) hC hi_So ty_So ok_So nm_So 0 rfl rfl 2 (by decide) mw_80 rfl rfl rfl rfl rfl (Nat.le_of_ble_eq_true rfl) rfl d_So_clear_7 ?_
  exact Z.eq rfl rfl rfl rfl (hR _ _ d_So_clear_10)
set_option maxHeartbeats 4000000 in
set_option maxRecDepth 100000 in
theorem k_So_length (l : Launch) (g : ZG) (s0 s1 sn sp : Nat) (sf : Nat → Int32)   : Ct l g y_So_length c_So_length 1 (some .int) { frames := 0, cells := 0, slots := 0, locals := 0 } [.ref s0] [(s0, .inr (6, [.ref s1, .int (iI ((sn : Nat) : Int)), .int (iI ((sp : Nat) : Int))])), (s1, .inl ((g.2.1 0), 200, .inl sf))] (some (.int (iI ((sn : Nat) : Int)))) [(s0, .inr (6, [.ref s1, .int (iI ((sn : Nat) : Int)), .int (iI ((sp : Nat) : Int))])), (s1, .inl ((g.2.1 0), 200, .inl sf))] := by
  refine ct_i (lv := [(0, .ref s0)]) (by decide) rfl (Nat.le_of_ble_eq_true rfl) rfl ?_
  intro x hC hR
  refine z_aload_n hC d_So_length_0 rfl 0 rfl ?_
  refine z_get hC hi_So 0 rfl rfl 1 (by decide) mw_79 (Or.inl rfl) rfl d_So_length_1 ?_
  exact Z.eq rfl rfl rfl rfl (hR _ _ d_So_length_4)
set_option maxHeartbeats 4000000 in
set_option maxRecDepth 100000 in
theorem k_So_place (l : Launch) (g : ZG) (s0 s1 sn sp : Nat) (sf : Nat → Int32)   : Ct l g y_So_place c_So_place 1 (some .int) { frames := 0, cells := 0, slots := 0, locals := 0 } [.ref s0] [(s0, .inr (6, [.ref s1, .int (iI ((sn : Nat) : Int)), .int (iI ((sp : Nat) : Int))])), (s1, .inl ((g.2.1 0), 200, .inl sf))] (some (.int (iI ((sp : Nat) : Int)))) [(s0, .inr (6, [.ref s1, .int (iI ((sn : Nat) : Int)), .int (iI ((sp : Nat) : Int))])), (s1, .inl ((g.2.1 0), 200, .inl sf))] := by
  refine ct_i (lv := [(0, .ref s0)]) (by decide) rfl (Nat.le_of_ble_eq_true rfl) rfl ?_
  intro x hC hR
  refine z_aload_n hC d_So_place_0 rfl 0 rfl ?_
  refine z_get hC hi_So 0 rfl rfl 2 (by decide) mw_80 (Or.inl rfl) rfl d_So_place_1 ?_
  exact Z.eq rfl rfl rfl rfl (hR _ _ d_So_place_4)
set_option maxHeartbeats 4000000 in
set_option maxRecDepth 100000 in
theorem k_So_moveTo (l : Launch) (g : ZG) (s0 s1 sn sp : Nat) (sf : Nat → Int32) (k : Nat)   : Ct l g y_So_moveTo c_So_moveTo 2 none { frames := 0, cells := 0, slots := 0, locals := 0 } [.ref s0, .int (iI ((k : Nat) : Int))] [(s0, .inr (6, [.ref s1, .int (iI ((sn : Nat) : Int)), .int (iI ((sp : Nat) : Int))])), (s1, .inl ((g.2.1 0), 200, .inl sf))] none [(s0, .inr (6, [.ref s1, .int (iI ((sn : Nat) : Int)), .int (iI ((k : Nat) : Int))])), (s1, .inl ((g.2.1 0), 200, .inl sf))] := by
  refine ct_v (lv := [(0, .ref s0), (1, .int (iI ((k : Nat) : Int)))]) (by decide) rfl (Nat.le_of_ble_eq_true rfl) rfl ?_
  intro x hC hR
  refine z_aload_n hC d_So_moveTo_0 rfl 0 rfl ?_
  refine z_iload_n hC d_So_moveTo_1 rfl 1 rfl ?_
  refine z_put (v := .int (iI ((k : Nat) : Int))) (ty := .int) (w' := [(s0, .inr (6, [.ref s1, .int (iI ((sn : Nat) : Int)), .int (iI ((k : Nat) : Int))])), (s1, .inl ((g.2.1 0), 200, .inl sf))]) hC hi_So ty_So ok_So nm_So 0 rfl rfl 2 (by decide) mw_80 rfl rfl rfl rfl rfl (Nat.le_of_ble_eq_true rfl) rfl d_So_moveTo_2 ?_
  exact Z.eq rfl rfl rfl rfl (hR _ _ d_So_moveTo_5)
set_option maxHeartbeats 4000000 in
set_option maxRecDepth 100000 in
theorem k_So_isAtEnd (l : Launch) (g : ZG) (s0 s1 sn sp : Nat) (sf : Nat → Int32) (hsn : sn ≤ 200) (hsp : sp ≤ sn)  : Ct l g y_So_isAtEnd c_So_isAtEnd 1 (some .boolean) { frames := 0, cells := 0, slots := 0, locals := 0 } [.ref s0] [(s0, .inr (6, [.ref s1, .int (iI ((sn : Nat) : Int)), .int (iI ((sp : Nat) : Int))])), (s1, .inl ((g.2.1 0), 200, .inl sf))] (some (.int (iI (bI (decide (sn ≤ sp)))))) [(s0, .inr (6, [.ref s1, .int (iI ((sn : Nat) : Int)), .int (iI ((sp : Nat) : Int))])), (s1, .inl ((g.2.1 0), 200, .inl sf))] := by
  refine ct_z (lv := [(0, .ref s0)]) (by decide) rfl (Nat.le_of_ble_eq_true rfl) rfl ?_
  intro x hC hR
  refine z_aload_n hC d_So_isAtEnd_0 rfl 0 rfl ?_
  refine z_get hC hi_So 0 rfl rfl 2 (by decide) mw_80 (Or.inl rfl) rfl d_So_isAtEnd_1 ?_
  refine z_aload_n hC d_So_isAtEnd_4 rfl 0 rfl ?_
  refine z_get hC hi_So 0 rfl rfl 1 (by decide) mw_79 (Or.inl rfl) rfl d_So_isAtEnd_5 ?_
  refine z_icmp_lt (tgt := 15) hC ((sp : Nat) : Int) ((sn : Nat) : Int) d_So_isAtEnd_8 rfl (iI_t (by omega)) (iI_t (by omega)) (fun c_1 => ?_) (fun c_1 => ?_)
  · refine z_iconstN hC 0 d_So_isAtEnd_15 rfl ?_
    exact Z.eq rfl rfl rfl (zb_f (decide_eq_false (by omega))) (hR _ _ d_So_isAtEnd_16)
  · refine z_iconstN hC 1 d_So_isAtEnd_11 rfl ?_
    refine z_goto (tgt := 16) hC d_So_isAtEnd_12 rfl ?_
    exact Z.eq rfl rfl rfl (zb_t (decide_eq_true (by omega))) (hR _ _ d_So_isAtEnd_16)
set_option maxHeartbeats 4000000 in
set_option maxRecDepth 100000 in
theorem k_So_signAt (l : Launch) (g : ZG) (s0 s1 sn sp : Nat) (sf : Nat → Int32) (k : Nat) (hsn : sn ≤ 200) (hk : k < 1000000)  : Ct l g y_So_signAt c_So_signAt 2 (some .int) { frames := 0, cells := 0, slots := 0, locals := 0 } [.ref s0, .int (iI ((k : Nat) : Int))] [(s0, .inr (6, [.ref s1, .int (iI ((sn : Nat) : Int)), .int (iI ((sp : Nat) : Int))])), (s1, .inl ((g.2.1 0), 200, .inl sf))] (some (.int (sN sn sf k))) [(s0, .inr (6, [.ref s1, .int (iI ((sn : Nat) : Int)), .int (iI ((sp : Nat) : Int))])), (s1, .inl ((g.2.1 0), 200, .inl sf))] := by
  refine ct_i (lv := [(0, .ref s0), (1, .int (iI ((k : Nat) : Int)))]) (by decide) rfl (Nat.le_of_ble_eq_true rfl) rfl ?_
  intro x hC hR
  refine z_iload_n hC d_So_signAt_0 rfl 1 rfl ?_
  refine z_if_lt (tgt := 28) hC ((k : Nat) : Int) d_So_signAt_1 rfl (iI_t (by omega)) (fun c_1 => ?_) (fun c_1 => ?_)
  · refine z_iconst hC d_So_signAt_28 ?_
    exact Z.eq rfl rfl rfl (by first | (exfalso; omega) | (unfold sN; rw [if_pos (by omega)]; done) | (unfold sN; rw [if_neg (by omega)]; done) | (exfalso; omega)) (hR _ _ d_So_signAt_29)
  · refine z_iload_n hC d_So_signAt_4 rfl 1 rfl ?_
    refine z_aload_n hC d_So_signAt_5 rfl 0 rfl ?_
    refine z_get hC hi_So 0 rfl rfl 1 (by decide) mw_79 (Or.inl rfl) rfl d_So_signAt_6 ?_
    refine z_icmp_ge (tgt := 28) hC ((k : Nat) : Int) ((sn : Nat) : Int) d_So_signAt_9 rfl (iI_t (by omega)) (iI_t (by omega)) (fun c_2 => ?_) (fun c_2 => ?_)
    · refine z_iconst hC d_So_signAt_28 ?_
      exact Z.eq rfl rfl rfl (by first | (exfalso; omega) | (unfold sN; rw [if_pos (by omega)]; done) | (unfold sN; rw [if_neg (by omega)]; done) | (exfalso; omega)) (hR _ _ d_So_signAt_29)
    · refine z_iload_n hC d_So_signAt_12 rfl 1 rfl ?_
      refine z_sipush (a := ((200 : Nat) : Int)) hC d_So_signAt_13 (by decide) ?_
      refine z_icmp_ge (tgt := 28) hC ((k : Nat) : Int) ((200 : Nat) : Int) d_So_signAt_16 rfl (iI_t (by omega)) (iI_t (by omega)) (fun c_3 => ?_) (fun c_3 => ?_)
      · refine z_iconst hC d_So_signAt_28 ?_
        exact Z.eq rfl rfl rfl (by first | (exfalso; omega) | (unfold sN; rw [if_pos (by omega)]; done) | (unfold sN; rw [if_neg (by omega)]; done) | (exfalso; omega)) (hR _ _ d_So_signAt_29)
      · refine z_aload_n hC d_So_signAt_19 rfl 0 rfl ?_
        refine z_get hC hi_So 0 rfl rfl 0 (by decide) mw_78 (Or.inl rfl) rfl d_So_signAt_20 ?_
        refine z_iload_n hC d_So_signAt_23 rfl 1 rfl ?_
        refine z_iald hC 1 0 rfl rfl k rfl (by omega) (by decide) d_So_signAt_24 ?_
        refine z_goto (tgt := 29) hC d_So_signAt_25 rfl ?_
        exact Z.eq rfl rfl rfl (by first | (exfalso; omega) | (unfold sN; rw [if_pos (by omega)]; done) | (unfold sN; rw [if_neg (by omega)]; done) | (exfalso; omega)) (hR _ _ d_So_signAt_29)
set_option maxHeartbeats 4000000 in
set_option maxRecDepth 100000 in
theorem k_So_take (l : Launch) (g : ZG) (s0 s1 sn sp : Nat) (sf : Nat → Int32) (c : Int32) (hsn : sn ≤ 200) (hsp : sp ≤ sn)  : Ct l g y_So_take c_So_take 2 (some .boolean) { frames := 1, cells := 0, slots := 0, locals := 21 } [.ref s0, .int c] [(s0, .inr (6, [.ref s1, .int (iI ((sn : Nat) : Int)), .int (iI ((sp : Nat) : Int))])), (s1, .inl ((g.2.1 0), 200, .inl sf))] (some (.int (iI (bI (decide (sN sn sf sp = c)))))) [(s0, .inr (6, [.ref s1, .int (iI ((sn : Nat) : Int)), .int (iI ((if sN sn sf sp = c then sp + 1 else sp : Nat) : Int))])), (s1, .inl ((g.2.1 0), 200, .inl sf))] := by
  refine ct_z (lv := [(0, .ref s0), (1, .int c)]) (by decide) rfl (Nat.le_of_ble_eq_true rfl) rfl ?_
  intro x hC hR
  refine z_aload_n hC d_So_take_0 rfl 0 rfl ?_
  refine z_aload_n hC d_So_take_1 rfl 0 rfl ?_
  refine z_get hC hi_So 0 rfl rfl 2 (by decide) mw_80 (Or.inl rfl) rfl d_So_take_2 ?_
  refine z_callV (q0 := 0) (ci := 6) (w' := [(s0, .inr (6, [.ref s1, .int (iI ((sn : Nat) : Int)), .int (iI ((sp : Nat) : Int))])), (s1, .inl ((g.2.1 0), 200, .inl sf))]) (st1 := [.int (sN sn sf sp)]) hC (k_So_signAt l g s0 s1 sn sp sf sp hsn (by omega)) mw_311 zv_So_signAt rfl rfl ⟨Nat.le_of_ble_eq_true rfl, Nat.le_of_ble_eq_true rfl⟩ [0, 1] rfl rfl rfl rfl rfl rfl rfl rfl (Nat.le_of_ble_eq_true rfl) d_So_take_5 rfl ⟨Nat.zero_le _, Nat.zero_le _⟩ rfl ?_
  refine z_iload_n hC d_So_take_8 rfl 1 rfl ?_
  refine z_icmp_eqR (tgt := 14) hC d_So_take_9 rfl (fun c_1 => ?_) (fun c_1 => ?_)
  · refine z_aload_n hC d_So_take_14 rfl 0 rfl ?_
    refine z_dup hC d_So_take_15 rfl ?_
    refine z_get hC hi_So 0 rfl rfl 2 (by decide) mw_80 (Or.inl rfl) rfl d_So_take_16 ?_
    refine z_iconstN hC 1 d_So_take_19 rfl ?_
    refine z_iaddN hC d_So_take_20 ?_
    refine z_put (v := .int (iI ((sp + 1 : Nat) : Int))) (ty := .int) (w' := [(s0, .inr (6, [.ref s1, .int (iI ((sn : Nat) : Int)), .int (iI ((sp + 1 : Nat) : Int))])), (s1, .inl ((g.2.1 0), 200, .inl sf))]) hC hi_So ty_So ok_So nm_So 0 rfl rfl 2 (by decide) mw_80 rfl rfl rfl rfl rfl (Nat.le_of_ble_eq_true rfl) rfl d_So_take_21 ?_
    refine z_iconstN hC 1 d_So_take_24 rfl ?_
    exact Z.eq (by first | (rw [if_pos (by assumption)]; done) | (rw [if_neg (by assumption)]; done)) rfl rfl (zb_t (decide_eq_true (by assumption))) (hR _ _ d_So_take_25)
  · refine z_iconstN hC 0 d_So_take_12 rfl ?_
    exact Z.eq (by first | (rw [if_pos (by assumption)]; done) | (rw [if_neg (by assumption)]; done)) rfl rfl (zb_f (decide_eq_false (by assumption))) (hR _ _ d_So_take_13)
set_option maxHeartbeats 4000000 in
set_option maxRecDepth 100000 in
theorem k_So_rowEnd (l : Launch) (g : ZG) (s0 s1 sn sp : Nat) (sf : Nat → Int32) (hsn : sn ≤ 200) (hsp : sp ≤ sn)  : Ct l g y_So_rowEnd c_So_rowEnd 2 (some .int) { frames := 1, cells := 0, slots := 0, locals := 21 } [.ref s0] [(s0, .inr (6, [.ref s1, .int (iI ((sn : Nat) : Int)), .int (iI ((sp : Nat) : Int))])), (s1, .inl ((g.2.1 0), 200, .inl sf))] (some (.int (iI ((rowE sn sf (sn - sp) sp : Nat) : Int)))) [(s0, .inr (6, [.ref s1, .int (iI ((sn : Nat) : Int)), .int (iI ((sp : Nat) : Int))])), (s1, .inl ((g.2.1 0), 200, .inl sf))] := by
  refine ct_i (lv := [(0, .ref s0)]) (by decide) rfl (Nat.le_of_ble_eq_true rfl) rfl ?_
  intro x hC hR
  refine z_aload_n hC d_So_rowEnd_0 rfl 0 rfl ?_
  refine z_get hC hi_So 0 rfl rfl 2 (by decide) mw_80 (Or.inl rfl) rfl d_So_rowEnd_1 ?_
  refine z_istore_n (lv' := [(1, .int (iI ((sp : Nat) : Int))), (0, .ref s0)]) hC d_So_rowEnd_4 rfl (by decide) rfl ?_
  have L_5 : ∀ (fu : Nat) (e : Nat), (e ≤ sn) → (rowE sn sf (sn - e) e = rowE sn sf (sn - sp) sp) → sn - e < fu → Z x (0, 0) [(s0, .inr (6, [.ref s1, .int (iI ((sn : Nat) : Int)), .int (iI ((sp : Nat) : Int))])), (s1, .inl ((g.2.1 0), 200, .inl sf))] 5 [(0, .ref s0), (1, .int (iI ((e : Nat) : Int)))] [] := by
    intro fu
    induction fu with
    | zero => intro e he hr hmu; exact absurd hmu (Nat.not_lt_zero _)
    | succ fu ih_5 =>
      intro e he hr hmu
      refine z_iload_n hC d_So_rowEnd_5 rfl 1 rfl ?_
      refine z_aload_n hC d_So_rowEnd_6 rfl 0 rfl ?_
      refine z_get hC hi_So 0 rfl rfl 1 (by decide) mw_79 (Or.inl rfl) rfl d_So_rowEnd_7 ?_
      refine z_icmp_ge (tgt := 30) hC ((e : Nat) : Int) ((sn : Nat) : Int) d_So_rowEnd_10 rfl (iI_t (by omega)) (iI_t (by omega)) (fun c_1 => ?_) (fun c_1 => ?_)
      · refine z_iload_n hC d_So_rowEnd_30 rfl 1 rfl ?_
        exact Z.eq rfl rfl rfl (by first | (rw [← hr, rowE_out (by omega)]) | (rw [← hr, rowE_no (by assumption)])) (hR _ _ d_So_rowEnd_31)
      · refine z_aload_n hC d_So_rowEnd_13 rfl 0 rfl ?_
        refine z_iload_n hC d_So_rowEnd_14 rfl 1 rfl ?_
        refine z_callV (q0 := 0) (ci := 6) (w' := [(s0, .inr (6, [.ref s1, .int (iI ((sn : Nat) : Int)), .int (iI ((sp : Nat) : Int))])), (s1, .inl ((g.2.1 0), 200, .inl sf))]) (st1 := [.int (sN sn sf e)]) hC (k_So_signAt l g s0 s1 sn sp sf e hsn (by omega)) mw_311 zv_So_signAt rfl rfl ⟨Nat.le_of_ble_eq_true rfl, Nat.le_of_ble_eq_true rfl⟩ [0, 1] rfl rfl rfl rfl rfl rfl rfl rfl (Nat.le_of_ble_eq_true rfl) d_So_rowEnd_15 rfl ⟨Nat.zero_le _, Nat.zero_le _⟩ rfl ?_
        refine z_callS (w' := [(s0, .inr (6, [.ref s1, .int (iI ((sn : Nat) : Int)), .int (iI ((sp : Nat) : Int))])), (s1, .inl ((g.2.1 0), 200, .inl sf))]) (st1 := [.int (iI (bI (isL (sN sn sf e))))]) hC (k_So_isSmallLetter l g (sN sn sf e)) mw_315 zs_So_isSmallLetter rfl rfl ⟨Nat.le_of_ble_eq_true rfl, Nat.le_of_ble_eq_true rfl⟩ [] rfl rfl rfl rfl rfl (Nat.le_of_ble_eq_true rfl) d_So_rowEnd_18 rfl ⟨Nat.zero_le _, Nat.zero_le _⟩ rfl ?_
        refine z_ifeqB (tgt := 30) hC d_So_rowEnd_21 rfl (fun c_2 => ?_) (fun c_2 => ?_)
        · refine z_iload_n hC d_So_rowEnd_30 rfl 1 rfl ?_
          exact Z.eq rfl rfl rfl (by first | (rw [← hr, rowE_out (by omega)]) | (rw [← hr, rowE_no (by assumption)])) (hR _ _ d_So_rowEnd_31)
        · refine z_iincN (lv' := [(1, .int (iI ((e + 1 : Nat) : Int))), (0, .ref s0)]) hC 1 d_So_rowEnd_24 rfl 1 rfl (by decide) rfl ?_
          refine z_goto (tgt := 5) hC d_So_rowEnd_27 rfl ?_
          exact Zloc [1, 0] rfl (Z.eq (w' := [(s0, .inr (6, [.ref s1, .int (iI ((sn : Nat) : Int)), .int (iI ((sp : Nat) : Int))])), (s1, .inl ((g.2.1 0), 200, .inl sf))]) rfl rfl rfl rfl (ih_5 (e + 1) (by omega) ((rowE_go (by omega) (by assumption)).trans hr) (by omega)))
  exact Zloc [1, 0] rfl (Z.eq (w' := [(s0, .inr (6, [.ref s1, .int (iI ((sn : Nat) : Int)), .int (iI ((sp : Nat) : Int))])), (s1, .inl ((g.2.1 0), 200, .inl sf))]) rfl rfl rfl rfl (L_5 _ sp hsp rfl (Nat.lt_succ_self _)))
end
section
/-! ===== trees: what they hold ===== -/
abbrev QD : Type := Int32 × Int32 × Int32 × Int32
def q1 (nd : Nat → QD) : Nat → Int32 := fun k => (nd k).1
def q2 (nd : Nat → QD) : Nat → Int32 := fun k => (nd k).2.1
def q3 (nd : Nat → QD) : Nat → Int32 := fun k => (nd k).2.2.1
def q4 (nd : Nat → QD) : Nat → Int32 := fun k => (nd k).2.2.2
def qN : QD := (iI (-1), iI (-1), iI (-1), iI (-1))
def tA (n : Nat) (nd : Nat → QD) (i : Int) : QD := if 0 ≤ i ∧ i < n then nd i.toNat else qN
theorem q1_up (nd : Nat → QD) (k : Nat) (a b c d : Int32) : upd (q1 nd) k a = q1 (up nd k (a, b, c, d)) := by
  funext j
  unfold upd q1 up
  by_cases e : j = k <;> simp [e]
theorem q2_up (nd : Nat → QD) (k : Nat) (a b c d : Int32) : upd (q2 nd) k b = q2 (up nd k (a, b, c, d)) := by
  funext j
  unfold upd q2 up
  by_cases e : j = k <;> simp [e]
theorem q3_up (nd : Nat → QD) (k : Nat) (a b c d : Int32) : upd (q3 nd) k c = q3 (up nd k (a, b, c, d)) := by
  funext j
  unfold upd q3 up
  by_cases e : j = k <;> simp [e]
theorem q4_up (nd : Nat → QD) (k : Nat) (a b c d : Int32) : upd (q4 nd) k d = q4 (up nd k (a, b, c, d)) := by
  funext j
  unfold upd q4 up
  by_cases e : j = k <;> simp [e]
def allB (P : Nat → Bool) : Nat → Bool
  | 0 => true
  | n + 1 => allB P n && P n
theorem allB_iff {P : Nat → Bool} : ∀ {n : Nat}, allB P n = true ↔ ∀ k, k < n → P k = true
  | 0 => ⟨fun _ k h => absurd h (Nat.not_lt_zero k), fun _ => rfl⟩
  | n + 1 => by
    simp only [allB, Bool.and_eq_true]
    rw [allB_iff (n := n)]
    constructor
    · intro h k hk
      by_cases e : k = n
      · rw [e]; exact h.2
      · exact h.1 k (by omega)
    · intro h
      exact ⟨fun k hk => h k (by omega), h n (by omega)⟩
theorem allB_no {P : Nat → Bool} {n k : Nat} (hk : k < n) (h : P k = false) : allB P n = false := by
  cases e : allB P n with
  | false => rfl
  | true => have := allB_iff.mp e k hk; rw [h] at this; cases this
def exB (P : Nat → Bool) : Nat → Bool
  | 0 => false
  | n + 1 => exB P n || P n
theorem exB_iff {P : Nat → Bool} : ∀ {n : Nat}, exB P n = true ↔ ∃ k, k < n ∧ P k = true
  | 0 => ⟨fun h => absurd h (by simp [exB]), fun ⟨k, h, _⟩ => absurd h (Nat.not_lt_zero k)⟩
  | n + 1 => by
    simp only [exB, Bool.or_eq_true]
    rw [exB_iff (n := n)]
    constructor
    · rintro (⟨k, h1, h2⟩ | h)
      · exact ⟨k, by omega, h2⟩
      · exact ⟨n, by omega, h⟩
    · rintro ⟨k, h1, h2⟩
      by_cases e : k = n
      · rw [e] at h2; exact Or.inr h2
      · exact Or.inl ⟨k, by omega, h2⟩
theorem exB_no {P : Nat → Bool} {n : Nat} (h : ∀ k, k < n → P k = false) : exB P n = false := by
  cases e : exB P n with
  | false => rfl
  | true => obtain ⟨k, h1, h2⟩ := exB_iff.mp e; rw [h k h1] at h2; cases h2
/-- a node put in front at a place -/
def insN (nd : Nat → QD) (n p : Nat) (q : QD) : Nat → QD := fun k => if k = p then q else if p < k ∧ k ≤ n then nd (k - 1) else nd k
def cpN (nd od : Nat → QD) (n : Nat) : Nat → QD := fun k => if k < n then od k else nd k
theorem ins_go {nd m : Nat → QD} {n i : Nat} (h1 : 1 ≤ i) (h : ∀ k, m k = if i < k ∧ k ≤ n then nd (k - 1) else nd k) (hi : i ≤ n) : ∀ k, up m i (m (i - 1)) k = if i - 1 < k ∧ k ≤ n then nd (k - 1) else nd k := by
  intro k
  unfold up
  by_cases e : k = i
  · subst e
    rw [if_pos rfl, h, if_neg (by omega), if_pos (by omega)]
  · rw [if_neg e, h]
    by_cases c : i < k ∧ k ≤ n
    · rw [if_pos c, if_pos (by omega)]
    · rw [if_neg c, if_neg (by omega)]
theorem ins_end {nd m : Nat → QD} {n i p : Nat} (h : ∀ k, m k = if i < k ∧ k ≤ n then nd (k - 1) else nd k) (e : i = p) (q : QD) : up m p q = insN nd n p q := by
  funext k
  unfold up insN
  rw [h, e]
theorem cp_go {nd od m : Nat → QD} {i : Nat} (h : ∀ k, m k = if k < i then od k else nd k) : ∀ k, up m i (od i) k = if k < i + 1 then od k else nd k := by
  intro k
  unfold up
  by_cases e : k = i
  · subst e
    rw [if_pos rfl, if_pos (by omega)]
  · rw [if_neg e, h]
    by_cases c : k < i
    · rw [if_pos c, if_pos (by omega)]
    · rw [if_neg c, if_neg (by omega)]
theorem qd_eta (q : QD) : (q.1, q.2.1, q.2.2.1, q.2.2.2) = q := rfl
set_option maxHeartbeats 4000000 in
set_option maxRecDepth 100000 in
theorem k_Tr_clear (l : Launch) (g : ZG) (t0 t1 t2 t3 t4 tn : Nat) (nd : Nat → QD)   : Ct l g y_Tr_clear c_Tr_clear 1 none { frames := 0, cells := 0, slots := 0, locals := 0 } [.ref t0] [(t0, .inr (7, [.ref t1, .ref t2, .ref t3, .ref t4, .int (iI ((tn : Nat) : Int))])), (t1, .inl ((g.2.1 0), 40, .inl (q1 nd))), (t2, .inl ((g.2.1 0), 40, .inl (q2 nd))), (t3, .inl ((g.2.1 0), 40, .inl (q3 nd))), (t4, .inl ((g.2.1 0), 40, .inl (q4 nd)))] none [(t0, .inr (7, [.ref t1, .ref t2, .ref t3, .ref t4, .int (iI ((0 : Nat) : Int))])), (t1, .inl ((g.2.1 0), 40, .inl (q1 nd))), (t2, .inl ((g.2.1 0), 40, .inl (q2 nd))), (t3, .inl ((g.2.1 0), 40, .inl (q3 nd))), (t4, .inl ((g.2.1 0), 40, .inl (q4 nd)))] := by
  refine ct_v (lv := [(0, .ref t0)]) (by decide) rfl (Nat.le_of_ble_eq_true rfl) rfl ?_
  intro x hC hR
  refine z_aload_n hC d_Tr_clear_0 rfl 0 rfl ?_
  refine z_iconstN hC 0 d_Tr_clear_1 rfl ?_
  refine z_put (v := .int (iI ((0 : Nat) : Int))) (ty := .int) (w' := [(t0, .inr (7, [.ref t1, .ref t2, .ref t3, .ref t4, .int (iI ((0 : Nat) : Int))])), (t1, .inl ((g.2.1 0), 40, .inl (q1 nd))), (t2, .inl ((g.2.1 0), 40, .inl (q2 nd))), (t3, .inl ((g.2.1 0), 40, .inl (q3 nd))), (t4, .inl ((g.2.1 0), 40, .inl (q4 nd)))]) hC hi_Tr ty_Tr ok_Tr nm_Tr 0 rfl rfl 4 (by decide) mw_135 rfl rfl rfl rfl rfl (Nat.le_of_ble_eq_true rfl) rfl d_Tr_clear_2 ?_
  exact Z.eq rfl rfl rfl rfl (hR _ _ d_Tr_clear_5)
set_option maxHeartbeats 4000000 in
set_option maxRecDepth 100000 in
theorem k_Tr_size (l : Launch) (g : ZG) (t0 t1 t2 t3 t4 tn : Nat) (nd : Nat → QD)   : Ct l g y_Tr_size c_Tr_size 1 (some .int) { frames := 0, cells := 0, slots := 0, locals := 0 } [.ref t0] [(t0, .inr (7, [.ref t1, .ref t2, .ref t3, .ref t4, .int (iI ((tn : Nat) : Int))])), (t1, .inl ((g.2.1 0), 40, .inl (q1 nd))), (t2, .inl ((g.2.1 0), 40, .inl (q2 nd))), (t3, .inl ((g.2.1 0), 40, .inl (q3 nd))), (t4, .inl ((g.2.1 0), 40, .inl (q4 nd)))] (some (.int (iI ((tn : Nat) : Int)))) [(t0, .inr (7, [.ref t1, .ref t2, .ref t3, .ref t4, .int (iI ((tn : Nat) : Int))])), (t1, .inl ((g.2.1 0), 40, .inl (q1 nd))), (t2, .inl ((g.2.1 0), 40, .inl (q2 nd))), (t3, .inl ((g.2.1 0), 40, .inl (q3 nd))), (t4, .inl ((g.2.1 0), 40, .inl (q4 nd)))] := by
  refine ct_i (lv := [(0, .ref t0)]) (by decide) rfl (Nat.le_of_ble_eq_true rfl) rfl ?_
  intro x hC hR
  refine z_aload_n hC d_Tr_size_0 rfl 0 rfl ?_
  refine z_get hC hi_Tr 0 rfl rfl 4 (by decide) mw_135 (Or.inl rfl) rfl d_Tr_size_1 ?_
  exact Z.eq rfl rfl rfl rfl (hR _ _ d_Tr_size_4)
set_option maxHeartbeats 4000000 in
set_option maxRecDepth 100000 in
theorem k_Tr_isFull (l : Launch) (g : ZG) (t0 t1 t2 t3 t4 tn : Nat) (nd : Nat → QD) (htn : tn ≤ 40)  : Ct l g y_Tr_isFull c_Tr_isFull 1 (some .boolean) { frames := 0, cells := 0, slots := 0, locals := 0 } [.ref t0] [(t0, .inr (7, [.ref t1, .ref t2, .ref t3, .ref t4, .int (iI ((tn : Nat) : Int))])), (t1, .inl ((g.2.1 0), 40, .inl (q1 nd))), (t2, .inl ((g.2.1 0), 40, .inl (q2 nd))), (t3, .inl ((g.2.1 0), 40, .inl (q3 nd))), (t4, .inl ((g.2.1 0), 40, .inl (q4 nd)))] (some (.int (iI (bI (decide (40 ≤ tn)))))) [(t0, .inr (7, [.ref t1, .ref t2, .ref t3, .ref t4, .int (iI ((tn : Nat) : Int))])), (t1, .inl ((g.2.1 0), 40, .inl (q1 nd))), (t2, .inl ((g.2.1 0), 40, .inl (q2 nd))), (t3, .inl ((g.2.1 0), 40, .inl (q3 nd))), (t4, .inl ((g.2.1 0), 40, .inl (q4 nd)))] := by
  refine ct_z (lv := [(0, .ref t0)]) (by decide) rfl (Nat.le_of_ble_eq_true rfl) rfl ?_
  intro x hC hR
  refine z_aload_n hC d_Tr_isFull_0 rfl 0 rfl ?_
  refine z_get hC hi_Tr 0 rfl rfl 4 (by decide) mw_135 (Or.inl rfl) rfl d_Tr_isFull_1 ?_
  refine z_if_lt (tgt := 16) hC ((tn : Nat) : Int) d_Tr_isFull_4 rfl (iI_t (by omega)) (fun c_1 => ?_) (fun c_1 => ?_)
  · refine z_iconstN hC 1 d_Tr_isFull_16 rfl ?_
    refine z_goto (tgt := 21) hC d_Tr_isFull_17 rfl ?_
    exact Z.eq rfl rfl rfl (zb_t (decide_eq_true (by omega))) (hR _ _ d_Tr_isFull_21)
  · refine z_aload_n hC d_Tr_isFull_7 rfl 0 rfl ?_
    refine z_get hC hi_Tr 0 rfl rfl 4 (by decide) mw_135 (Or.inl rfl) rfl d_Tr_isFull_8 ?_
    refine z_bipush (a := ((40 : Nat) : Int)) hC d_Tr_isFull_11 (by decide) ?_
    refine z_icmp_lt (tgt := 20) hC ((tn : Nat) : Int) ((40 : Nat) : Int) d_Tr_isFull_13 rfl (iI_t (by omega)) (iI_t (by omega)) (fun c_2 => ?_) (fun c_2 => ?_)
    · refine z_iconstN hC 0 d_Tr_isFull_20 rfl ?_
      exact Z.eq rfl rfl rfl (zb_f (decide_eq_false (by omega))) (hR _ _ d_Tr_isFull_21)
    · refine z_iconstN hC 1 d_Tr_isFull_16 rfl ?_
      refine z_goto (tgt := 21) hC d_Tr_isFull_17 rfl ?_
      exact Z.eq rfl rfl rfl (zb_t (decide_eq_true (by omega))) (hR _ _ d_Tr_isFull_21)
set_option maxHeartbeats 4000000 in
set_option maxRecDepth 100000 in
theorem k_Tr_has (l : Launch) (g : ZG) (t0 t1 t2 t3 t4 tn : Nat) (nd : Nat → QD) (i : Int) (htn : tn ≤ 40) (hi : -2147483648 ≤ i ∧ i < 2147483648)  : Ct l g y_Tr_has c_Tr_has 2 (some .boolean) { frames := 0, cells := 0, slots := 0, locals := 0 } [.ref t0, .int (iI i)] [(t0, .inr (7, [.ref t1, .ref t2, .ref t3, .ref t4, .int (iI ((tn : Nat) : Int))])), (t1, .inl ((g.2.1 0), 40, .inl (q1 nd))), (t2, .inl ((g.2.1 0), 40, .inl (q2 nd))), (t3, .inl ((g.2.1 0), 40, .inl (q3 nd))), (t4, .inl ((g.2.1 0), 40, .inl (q4 nd)))] (some (.int (iI (bI (decide (0 ≤ i ∧ i < tn)))))) [(t0, .inr (7, [.ref t1, .ref t2, .ref t3, .ref t4, .int (iI ((tn : Nat) : Int))])), (t1, .inl ((g.2.1 0), 40, .inl (q1 nd))), (t2, .inl ((g.2.1 0), 40, .inl (q2 nd))), (t3, .inl ((g.2.1 0), 40, .inl (q3 nd))), (t4, .inl ((g.2.1 0), 40, .inl (q4 nd)))] := by
  refine ct_z (lv := [(0, .ref t0), (1, .int (iI i))]) (by decide) rfl (Nat.le_of_ble_eq_true rfl) rfl ?_
  intro x hC hR
  refine z_iload_n hC d_Tr_has_0 rfl 1 rfl ?_
  refine z_if_lt (tgt := 22) hC i d_Tr_has_1 rfl (iI_t (by omega)) (fun c_1 => ?_) (fun c_1 => ?_)
  · refine z_iconstN hC 0 d_Tr_has_22 rfl ?_
    exact Z.eq rfl rfl rfl (zb_f (decide_eq_false (by omega))) (hR _ _ d_Tr_has_23)
  · refine z_iload_n hC d_Tr_has_4 rfl 1 rfl ?_
    refine z_aload_n hC d_Tr_has_5 rfl 0 rfl ?_
    refine z_get hC hi_Tr 0 rfl rfl 4 (by decide) mw_135 (Or.inl rfl) rfl d_Tr_has_6 ?_
    refine z_icmp_ge (tgt := 22) hC i ((tn : Nat) : Int) d_Tr_has_9 rfl (iI_t (by omega)) (iI_t (by omega)) (fun c_2 => ?_) (fun c_2 => ?_)
    · refine z_iconstN hC 0 d_Tr_has_22 rfl ?_
      exact Z.eq rfl rfl rfl (zb_f (decide_eq_false (by omega))) (hR _ _ d_Tr_has_23)
    · refine z_iload_n hC d_Tr_has_12 rfl 1 rfl ?_
      refine z_bipush (a := ((40 : Nat) : Int)) hC d_Tr_has_13 (by decide) ?_
      refine z_icmp_ge (tgt := 22) hC i ((40 : Nat) : Int) d_Tr_has_15 rfl (iI_t (by omega)) (iI_t (by omega)) (fun c_3 => ?_) (fun c_3 => ?_)
      · refine z_iconstN hC 0 d_Tr_has_22 rfl ?_
        exact Z.eq rfl rfl rfl (zb_f (decide_eq_false (by omega))) (hR _ _ d_Tr_has_23)
      · refine z_iconstN hC 1 d_Tr_has_18 rfl ?_
        refine z_goto (tgt := 23) hC d_Tr_has_19 rfl ?_
        exact Z.eq rfl rfl rfl (zb_t (decide_eq_true (by omega))) (hR _ _ d_Tr_has_23)
set_option maxHeartbeats 4000000 in
set_option maxRecDepth 100000 in
theorem k_Tr_sortAt (l : Launch) (g : ZG) (t0 t1 t2 t3 t4 tn : Nat) (nd : Nat → QD) (i : Int) (htn : tn ≤ 40) (hi : -2147483648 ≤ i ∧ i < 2147483648)  : Ct l g y_Tr_sortAt c_Tr_sortAt 2 (some .int) { frames := 1, cells := 0, slots := 0, locals := 21 } [.ref t0, .int (iI i)] [(t0, .inr (7, [.ref t1, .ref t2, .ref t3, .ref t4, .int (iI ((tn : Nat) : Int))])), (t1, .inl ((g.2.1 0), 40, .inl (q1 nd))), (t2, .inl ((g.2.1 0), 40, .inl (q2 nd))), (t3, .inl ((g.2.1 0), 40, .inl (q3 nd))), (t4, .inl ((g.2.1 0), 40, .inl (q4 nd)))] (some (.int ((tA tn nd i).1))) [(t0, .inr (7, [.ref t1, .ref t2, .ref t3, .ref t4, .int (iI ((tn : Nat) : Int))])), (t1, .inl ((g.2.1 0), 40, .inl (q1 nd))), (t2, .inl ((g.2.1 0), 40, .inl (q2 nd))), (t3, .inl ((g.2.1 0), 40, .inl (q3 nd))), (t4, .inl ((g.2.1 0), 40, .inl (q4 nd)))] := by
  refine ct_i (lv := [(0, .ref t0), (1, .int (iI i))]) (by decide) rfl (Nat.le_of_ble_eq_true rfl) rfl ?_
  intro x hC hR
  refine z_aload_n hC d_Tr_sortAt_0 rfl 0 rfl ?_
  refine z_iload_n hC d_Tr_sortAt_1 rfl 1 rfl ?_
  refine z_callV (q0 := 0) (ci := 7) (w' := [(t0, .inr (7, [.ref t1, .ref t2, .ref t3, .ref t4, .int (iI ((tn : Nat) : Int))])), (t1, .inl ((g.2.1 0), 40, .inl (q1 nd))), (t2, .inl ((g.2.1 0), 40, .inl (q2 nd))), (t3, .inl ((g.2.1 0), 40, .inl (q3 nd))), (t4, .inl ((g.2.1 0), 40, .inl (q4 nd)))]) (st1 := [.int (iI (bI (decide (0 ≤ i ∧ i < tn))))]) hC (k_Tr_has l g t0 t1 t2 t3 t4 tn nd i htn hi) mw_489 zv_Tr_has rfl rfl ⟨Nat.le_of_ble_eq_true rfl, Nat.le_of_ble_eq_true rfl⟩ [0, 1, 2, 3, 4] rfl rfl rfl rfl rfl rfl rfl rfl (Nat.le_of_ble_eq_true rfl) d_Tr_sortAt_2 rfl ⟨Nat.zero_le _, Nat.zero_le _⟩ rfl ?_
  refine z_ifeqD (tgt := 17) hC d_Tr_sortAt_5 rfl (fun c_1 => ?_) (fun c_1 => ?_)
  · refine z_iconst hC d_Tr_sortAt_17 ?_
    exact Z.eq rfl rfl rfl (by first | (rw [tA, if_pos (by omega)]; rfl) | (rw [tA, if_neg (by omega)]; rfl)) (hR _ _ d_Tr_sortAt_18)
  · refine z_aload_n hC d_Tr_sortAt_8 rfl 0 rfl ?_
    refine z_get hC hi_Tr 0 rfl rfl 0 (by decide) mw_131 (Or.inl rfl) rfl d_Tr_sortAt_9 ?_
    refine z_iload_n hC d_Tr_sortAt_12 rfl 1 rfl ?_
    refine z_iald hC 1 0 rfl rfl ((i).toNat) (by omega) (by omega) (by decide) d_Tr_sortAt_13 ?_
    refine z_goto (tgt := 18) hC d_Tr_sortAt_14 rfl ?_
    exact Z.eq rfl rfl rfl (by first | (rw [tA, if_pos (by omega)]; rfl) | (rw [tA, if_neg (by omega)]; rfl)) (hR _ _ d_Tr_sortAt_18)
set_option maxHeartbeats 4000000 in
set_option maxRecDepth 100000 in
theorem k_Tr_sortAt_N (l : Launch) (g : ZG) (t0 t1 t2 t3 t4 tn : Nat) (nd : Nat → QD) (k : Nat) (htn : tn ≤ 40) (hk : k < tn)  : Ct l g y_Tr_sortAt c_Tr_sortAt 2 (some .int) { frames := 1, cells := 0, slots := 0, locals := 21 } [.ref t0, .int (iI ((k : Nat) : Int))] [(t0, .inr (7, [.ref t1, .ref t2, .ref t3, .ref t4, .int (iI ((tn : Nat) : Int))])), (t1, .inl ((g.2.1 0), 40, .inl (q1 nd))), (t2, .inl ((g.2.1 0), 40, .inl (q2 nd))), (t3, .inl ((g.2.1 0), 40, .inl (q3 nd))), (t4, .inl ((g.2.1 0), 40, .inl (q4 nd)))] (some (.int ((nd k).1))) [(t0, .inr (7, [.ref t1, .ref t2, .ref t3, .ref t4, .int (iI ((tn : Nat) : Int))])), (t1, .inl ((g.2.1 0), 40, .inl (q1 nd))), (t2, .inl ((g.2.1 0), 40, .inl (q2 nd))), (t3, .inl ((g.2.1 0), 40, .inl (q3 nd))), (t4, .inl ((g.2.1 0), 40, .inl (q4 nd)))] := by
  refine ct_i (lv := [(0, .ref t0), (1, .int (iI ((k : Nat) : Int)))]) (by decide) rfl (Nat.le_of_ble_eq_true rfl) rfl ?_
  intro x hC hR
  refine z_aload_n hC d_Tr_sortAt_0 rfl 0 rfl ?_
  refine z_iload_n hC d_Tr_sortAt_1 rfl 1 rfl ?_
  refine z_callV (q0 := 0) (ci := 7) (w' := [(t0, .inr (7, [.ref t1, .ref t2, .ref t3, .ref t4, .int (iI ((tn : Nat) : Int))])), (t1, .inl ((g.2.1 0), 40, .inl (q1 nd))), (t2, .inl ((g.2.1 0), 40, .inl (q2 nd))), (t3, .inl ((g.2.1 0), 40, .inl (q3 nd))), (t4, .inl ((g.2.1 0), 40, .inl (q4 nd)))]) (st1 := [.int (iI (bI (decide (0 ≤ ((k : Nat) : Int) ∧ ((k : Nat) : Int) < tn))))]) hC (k_Tr_has l g t0 t1 t2 t3 t4 tn nd ((k : Nat) : Int) htn (by omega)) mw_489 zv_Tr_has rfl rfl ⟨Nat.le_of_ble_eq_true rfl, Nat.le_of_ble_eq_true rfl⟩ [0, 1, 2, 3, 4] rfl rfl rfl rfl rfl rfl rfl rfl (Nat.le_of_ble_eq_true rfl) d_Tr_sortAt_2 rfl ⟨Nat.zero_le _, Nat.zero_le _⟩ rfl ?_
  refine z_ifeqD (tgt := 17) hC d_Tr_sortAt_5 rfl (fun c_1 => ?_) (fun c_1 => ?_)
  · refine z_iconst hC d_Tr_sortAt_17 ?_
    exact Z.eq rfl rfl rfl (by first | rfl | (exfalso; omega)) (hR _ _ d_Tr_sortAt_18)
  · refine z_aload_n hC d_Tr_sortAt_8 rfl 0 rfl ?_
    refine z_get hC hi_Tr 0 rfl rfl 0 (by decide) mw_131 (Or.inl rfl) rfl d_Tr_sortAt_9 ?_
    refine z_iload_n hC d_Tr_sortAt_12 rfl 1 rfl ?_
    refine z_iald hC 1 0 rfl rfl k rfl (by omega) (by decide) d_Tr_sortAt_13 ?_
    refine z_goto (tgt := 18) hC d_Tr_sortAt_14 rfl ?_
    exact Z.eq rfl rfl rfl (by first | rfl | (exfalso; omega)) (hR _ _ d_Tr_sortAt_18)
set_option maxHeartbeats 4000000 in
set_option maxRecDepth 100000 in
theorem k_Tr_indexAt (l : Launch) (g : ZG) (t0 t1 t2 t3 t4 tn : Nat) (nd : Nat → QD) (i : Int) (htn : tn ≤ 40) (hi : -2147483648 ≤ i ∧ i < 2147483648)  : Ct l g y_Tr_indexAt c_Tr_indexAt 2 (some .int) { frames := 1, cells := 0, slots := 0, locals := 21 } [.ref t0, .int (iI i)] [(t0, .inr (7, [.ref t1, .ref t2, .ref t3, .ref t4, .int (iI ((tn : Nat) : Int))])), (t1, .inl ((g.2.1 0), 40, .inl (q1 nd))), (t2, .inl ((g.2.1 0), 40, .inl (q2 nd))), (t3, .inl ((g.2.1 0), 40, .inl (q3 nd))), (t4, .inl ((g.2.1 0), 40, .inl (q4 nd)))] (some (.int ((tA tn nd i).2.1))) [(t0, .inr (7, [.ref t1, .ref t2, .ref t3, .ref t4, .int (iI ((tn : Nat) : Int))])), (t1, .inl ((g.2.1 0), 40, .inl (q1 nd))), (t2, .inl ((g.2.1 0), 40, .inl (q2 nd))), (t3, .inl ((g.2.1 0), 40, .inl (q3 nd))), (t4, .inl ((g.2.1 0), 40, .inl (q4 nd)))] := by
  refine ct_i (lv := [(0, .ref t0), (1, .int (iI i))]) (by decide) rfl (Nat.le_of_ble_eq_true rfl) rfl ?_
  intro x hC hR
  refine z_aload_n hC d_Tr_indexAt_0 rfl 0 rfl ?_
  refine z_iload_n hC d_Tr_indexAt_1 rfl 1 rfl ?_
  refine z_callV (q0 := 0) (ci := 7) (w' := [(t0, .inr (7, [.ref t1, .ref t2, .ref t3, .ref t4, .int (iI ((tn : Nat) : Int))])), (t1, .inl ((g.2.1 0), 40, .inl (q1 nd))), (t2, .inl ((g.2.1 0), 40, .inl (q2 nd))), (t3, .inl ((g.2.1 0), 40, .inl (q3 nd))), (t4, .inl ((g.2.1 0), 40, .inl (q4 nd)))]) (st1 := [.int (iI (bI (decide (0 ≤ i ∧ i < tn))))]) hC (k_Tr_has l g t0 t1 t2 t3 t4 tn nd i htn hi) mw_489 zv_Tr_has rfl rfl ⟨Nat.le_of_ble_eq_true rfl, Nat.le_of_ble_eq_true rfl⟩ [0, 1, 2, 3, 4] rfl rfl rfl rfl rfl rfl rfl rfl (Nat.le_of_ble_eq_true rfl) d_Tr_indexAt_2 rfl ⟨Nat.zero_le _, Nat.zero_le _⟩ rfl ?_
  refine z_ifeqD (tgt := 17) hC d_Tr_indexAt_5 rfl (fun c_1 => ?_) (fun c_1 => ?_)
  · refine z_iconst hC d_Tr_indexAt_17 ?_
    exact Z.eq rfl rfl rfl (by first | (rw [tA, if_pos (by omega)]; rfl) | (rw [tA, if_neg (by omega)]; rfl)) (hR _ _ d_Tr_indexAt_18)
  · refine z_aload_n hC d_Tr_indexAt_8 rfl 0 rfl ?_
    refine z_get hC hi_Tr 0 rfl rfl 1 (by decide) mw_132 (Or.inl rfl) rfl d_Tr_indexAt_9 ?_
    refine z_iload_n hC d_Tr_indexAt_12 rfl 1 rfl ?_
    refine z_iald hC 2 0 rfl rfl ((i).toNat) (by omega) (by omega) (by decide) d_Tr_indexAt_13 ?_
    refine z_goto (tgt := 18) hC d_Tr_indexAt_14 rfl ?_
    exact Z.eq rfl rfl rfl (by first | (rw [tA, if_pos (by omega)]; rfl) | (rw [tA, if_neg (by omega)]; rfl)) (hR _ _ d_Tr_indexAt_18)
set_option maxHeartbeats 4000000 in
set_option maxRecDepth 100000 in
theorem k_Tr_indexAt_N (l : Launch) (g : ZG) (t0 t1 t2 t3 t4 tn : Nat) (nd : Nat → QD) (k : Nat) (htn : tn ≤ 40) (hk : k < tn)  : Ct l g y_Tr_indexAt c_Tr_indexAt 2 (some .int) { frames := 1, cells := 0, slots := 0, locals := 21 } [.ref t0, .int (iI ((k : Nat) : Int))] [(t0, .inr (7, [.ref t1, .ref t2, .ref t3, .ref t4, .int (iI ((tn : Nat) : Int))])), (t1, .inl ((g.2.1 0), 40, .inl (q1 nd))), (t2, .inl ((g.2.1 0), 40, .inl (q2 nd))), (t3, .inl ((g.2.1 0), 40, .inl (q3 nd))), (t4, .inl ((g.2.1 0), 40, .inl (q4 nd)))] (some (.int ((nd k).2.1))) [(t0, .inr (7, [.ref t1, .ref t2, .ref t3, .ref t4, .int (iI ((tn : Nat) : Int))])), (t1, .inl ((g.2.1 0), 40, .inl (q1 nd))), (t2, .inl ((g.2.1 0), 40, .inl (q2 nd))), (t3, .inl ((g.2.1 0), 40, .inl (q3 nd))), (t4, .inl ((g.2.1 0), 40, .inl (q4 nd)))] := by
  refine ct_i (lv := [(0, .ref t0), (1, .int (iI ((k : Nat) : Int)))]) (by decide) rfl (Nat.le_of_ble_eq_true rfl) rfl ?_
  intro x hC hR
  refine z_aload_n hC d_Tr_indexAt_0 rfl 0 rfl ?_
  refine z_iload_n hC d_Tr_indexAt_1 rfl 1 rfl ?_
  refine z_callV (q0 := 0) (ci := 7) (w' := [(t0, .inr (7, [.ref t1, .ref t2, .ref t3, .ref t4, .int (iI ((tn : Nat) : Int))])), (t1, .inl ((g.2.1 0), 40, .inl (q1 nd))), (t2, .inl ((g.2.1 0), 40, .inl (q2 nd))), (t3, .inl ((g.2.1 0), 40, .inl (q3 nd))), (t4, .inl ((g.2.1 0), 40, .inl (q4 nd)))]) (st1 := [.int (iI (bI (decide (0 ≤ ((k : Nat) : Int) ∧ ((k : Nat) : Int) < tn))))]) hC (k_Tr_has l g t0 t1 t2 t3 t4 tn nd ((k : Nat) : Int) htn (by omega)) mw_489 zv_Tr_has rfl rfl ⟨Nat.le_of_ble_eq_true rfl, Nat.le_of_ble_eq_true rfl⟩ [0, 1, 2, 3, 4] rfl rfl rfl rfl rfl rfl rfl rfl (Nat.le_of_ble_eq_true rfl) d_Tr_indexAt_2 rfl ⟨Nat.zero_le _, Nat.zero_le _⟩ rfl ?_
  refine z_ifeqD (tgt := 17) hC d_Tr_indexAt_5 rfl (fun c_1 => ?_) (fun c_1 => ?_)
  · refine z_iconst hC d_Tr_indexAt_17 ?_
    exact Z.eq rfl rfl rfl (by first | rfl | (exfalso; omega)) (hR _ _ d_Tr_indexAt_18)
  · refine z_aload_n hC d_Tr_indexAt_8 rfl 0 rfl ?_
    refine z_get hC hi_Tr 0 rfl rfl 1 (by decide) mw_132 (Or.inl rfl) rfl d_Tr_indexAt_9 ?_
    refine z_iload_n hC d_Tr_indexAt_12 rfl 1 rfl ?_
    refine z_iald hC 2 0 rfl rfl k rfl (by omega) (by decide) d_Tr_indexAt_13 ?_
    refine z_goto (tgt := 18) hC d_Tr_indexAt_14 rfl ?_
    exact Z.eq rfl rfl rfl (by first | rfl | (exfalso; omega)) (hR _ _ d_Tr_indexAt_18)
set_option maxHeartbeats 4000000 in
set_option maxRecDepth 100000 in
theorem k_Tr_leastAt (l : Launch) (g : ZG) (t0 t1 t2 t3 t4 tn : Nat) (nd : Nat → QD) (i : Int) (htn : tn ≤ 40) (hi : -2147483648 ≤ i ∧ i < 2147483648)  : Ct l g y_Tr_leastAt c_Tr_leastAt 2 (some .int) { frames := 1, cells := 0, slots := 0, locals := 21 } [.ref t0, .int (iI i)] [(t0, .inr (7, [.ref t1, .ref t2, .ref t3, .ref t4, .int (iI ((tn : Nat) : Int))])), (t1, .inl ((g.2.1 0), 40, .inl (q1 nd))), (t2, .inl ((g.2.1 0), 40, .inl (q2 nd))), (t3, .inl ((g.2.1 0), 40, .inl (q3 nd))), (t4, .inl ((g.2.1 0), 40, .inl (q4 nd)))] (some (.int ((tA tn nd i).2.2.1))) [(t0, .inr (7, [.ref t1, .ref t2, .ref t3, .ref t4, .int (iI ((tn : Nat) : Int))])), (t1, .inl ((g.2.1 0), 40, .inl (q1 nd))), (t2, .inl ((g.2.1 0), 40, .inl (q2 nd))), (t3, .inl ((g.2.1 0), 40, .inl (q3 nd))), (t4, .inl ((g.2.1 0), 40, .inl (q4 nd)))] := by
  refine ct_i (lv := [(0, .ref t0), (1, .int (iI i))]) (by decide) rfl (Nat.le_of_ble_eq_true rfl) rfl ?_
  intro x hC hR
  refine z_aload_n hC d_Tr_leastAt_0 rfl 0 rfl ?_
  refine z_iload_n hC d_Tr_leastAt_1 rfl 1 rfl ?_
  refine z_callV (q0 := 0) (ci := 7) (w' := [(t0, .inr (7, [.ref t1, .ref t2, .ref t3, .ref t4, .int (iI ((tn : Nat) : Int))])), (t1, .inl ((g.2.1 0), 40, .inl (q1 nd))), (t2, .inl ((g.2.1 0), 40, .inl (q2 nd))), (t3, .inl ((g.2.1 0), 40, .inl (q3 nd))), (t4, .inl ((g.2.1 0), 40, .inl (q4 nd)))]) (st1 := [.int (iI (bI (decide (0 ≤ i ∧ i < tn))))]) hC (k_Tr_has l g t0 t1 t2 t3 t4 tn nd i htn hi) mw_489 zv_Tr_has rfl rfl ⟨Nat.le_of_ble_eq_true rfl, Nat.le_of_ble_eq_true rfl⟩ [0, 1, 2, 3, 4] rfl rfl rfl rfl rfl rfl rfl rfl (Nat.le_of_ble_eq_true rfl) d_Tr_leastAt_2 rfl ⟨Nat.zero_le _, Nat.zero_le _⟩ rfl ?_
  refine z_ifeqD (tgt := 17) hC d_Tr_leastAt_5 rfl (fun c_1 => ?_) (fun c_1 => ?_)
  · refine z_iconst hC d_Tr_leastAt_17 ?_
    exact Z.eq rfl rfl rfl (by first | (rw [tA, if_pos (by omega)]; rfl) | (rw [tA, if_neg (by omega)]; rfl)) (hR _ _ d_Tr_leastAt_18)
  · refine z_aload_n hC d_Tr_leastAt_8 rfl 0 rfl ?_
    refine z_get hC hi_Tr 0 rfl rfl 2 (by decide) mw_133 (Or.inl rfl) rfl d_Tr_leastAt_9 ?_
    refine z_iload_n hC d_Tr_leastAt_12 rfl 1 rfl ?_
    refine z_iald hC 3 0 rfl rfl ((i).toNat) (by omega) (by omega) (by decide) d_Tr_leastAt_13 ?_
    refine z_goto (tgt := 18) hC d_Tr_leastAt_14 rfl ?_
    exact Z.eq rfl rfl rfl (by first | (rw [tA, if_pos (by omega)]; rfl) | (rw [tA, if_neg (by omega)]; rfl)) (hR _ _ d_Tr_leastAt_18)
set_option maxHeartbeats 4000000 in
set_option maxRecDepth 100000 in
theorem k_Tr_leastAt_N (l : Launch) (g : ZG) (t0 t1 t2 t3 t4 tn : Nat) (nd : Nat → QD) (k : Nat) (htn : tn ≤ 40) (hk : k < tn)  : Ct l g y_Tr_leastAt c_Tr_leastAt 2 (some .int) { frames := 1, cells := 0, slots := 0, locals := 21 } [.ref t0, .int (iI ((k : Nat) : Int))] [(t0, .inr (7, [.ref t1, .ref t2, .ref t3, .ref t4, .int (iI ((tn : Nat) : Int))])), (t1, .inl ((g.2.1 0), 40, .inl (q1 nd))), (t2, .inl ((g.2.1 0), 40, .inl (q2 nd))), (t3, .inl ((g.2.1 0), 40, .inl (q3 nd))), (t4, .inl ((g.2.1 0), 40, .inl (q4 nd)))] (some (.int ((nd k).2.2.1))) [(t0, .inr (7, [.ref t1, .ref t2, .ref t3, .ref t4, .int (iI ((tn : Nat) : Int))])), (t1, .inl ((g.2.1 0), 40, .inl (q1 nd))), (t2, .inl ((g.2.1 0), 40, .inl (q2 nd))), (t3, .inl ((g.2.1 0), 40, .inl (q3 nd))), (t4, .inl ((g.2.1 0), 40, .inl (q4 nd)))] := by
  refine ct_i (lv := [(0, .ref t0), (1, .int (iI ((k : Nat) : Int)))]) (by decide) rfl (Nat.le_of_ble_eq_true rfl) rfl ?_
  intro x hC hR
  refine z_aload_n hC d_Tr_leastAt_0 rfl 0 rfl ?_
  refine z_iload_n hC d_Tr_leastAt_1 rfl 1 rfl ?_
  refine z_callV (q0 := 0) (ci := 7) (w' := [(t0, .inr (7, [.ref t1, .ref t2, .ref t3, .ref t4, .int (iI ((tn : Nat) : Int))])), (t1, .inl ((g.2.1 0), 40, .inl (q1 nd))), (t2, .inl ((g.2.1 0), 40, .inl (q2 nd))), (t3, .inl ((g.2.1 0), 40, .inl (q3 nd))), (t4, .inl ((g.2.1 0), 40, .inl (q4 nd)))]) (st1 := [.int (iI (bI (decide (0 ≤ ((k : Nat) : Int) ∧ ((k : Nat) : Int) < tn))))]) hC (k_Tr_has l g t0 t1 t2 t3 t4 tn nd ((k : Nat) : Int) htn (by omega)) mw_489 zv_Tr_has rfl rfl ⟨Nat.le_of_ble_eq_true rfl, Nat.le_of_ble_eq_true rfl⟩ [0, 1, 2, 3, 4] rfl rfl rfl rfl rfl rfl rfl rfl (Nat.le_of_ble_eq_true rfl) d_Tr_leastAt_2 rfl ⟨Nat.zero_le _, Nat.zero_le _⟩ rfl ?_
  refine z_ifeqD (tgt := 17) hC d_Tr_leastAt_5 rfl (fun c_1 => ?_) (fun c_1 => ?_)
  · refine z_iconst hC d_Tr_leastAt_17 ?_
    exact Z.eq rfl rfl rfl (by first | rfl | (exfalso; omega)) (hR _ _ d_Tr_leastAt_18)
  · refine z_aload_n hC d_Tr_leastAt_8 rfl 0 rfl ?_
    refine z_get hC hi_Tr 0 rfl rfl 2 (by decide) mw_133 (Or.inl rfl) rfl d_Tr_leastAt_9 ?_
    refine z_iload_n hC d_Tr_leastAt_12 rfl 1 rfl ?_
    refine z_iald hC 3 0 rfl rfl k rfl (by omega) (by decide) d_Tr_leastAt_13 ?_
    refine z_goto (tgt := 18) hC d_Tr_leastAt_14 rfl ?_
    exact Z.eq rfl rfl rfl (by first | rfl | (exfalso; omega)) (hR _ _ d_Tr_leastAt_18)
set_option maxHeartbeats 4000000 in
set_option maxRecDepth 100000 in
theorem k_Tr_greatestAt (l : Launch) (g : ZG) (t0 t1 t2 t3 t4 tn : Nat) (nd : Nat → QD) (i : Int) (htn : tn ≤ 40) (hi : -2147483648 ≤ i ∧ i < 2147483648)  : Ct l g y_Tr_greatestAt c_Tr_greatestAt 2 (some .int) { frames := 1, cells := 0, slots := 0, locals := 21 } [.ref t0, .int (iI i)] [(t0, .inr (7, [.ref t1, .ref t2, .ref t3, .ref t4, .int (iI ((tn : Nat) : Int))])), (t1, .inl ((g.2.1 0), 40, .inl (q1 nd))), (t2, .inl ((g.2.1 0), 40, .inl (q2 nd))), (t3, .inl ((g.2.1 0), 40, .inl (q3 nd))), (t4, .inl ((g.2.1 0), 40, .inl (q4 nd)))] (some (.int ((tA tn nd i).2.2.2))) [(t0, .inr (7, [.ref t1, .ref t2, .ref t3, .ref t4, .int (iI ((tn : Nat) : Int))])), (t1, .inl ((g.2.1 0), 40, .inl (q1 nd))), (t2, .inl ((g.2.1 0), 40, .inl (q2 nd))), (t3, .inl ((g.2.1 0), 40, .inl (q3 nd))), (t4, .inl ((g.2.1 0), 40, .inl (q4 nd)))] := by
  refine ct_i (lv := [(0, .ref t0), (1, .int (iI i))]) (by decide) rfl (Nat.le_of_ble_eq_true rfl) rfl ?_
  intro x hC hR
  refine z_aload_n hC d_Tr_greatestAt_0 rfl 0 rfl ?_
  refine z_iload_n hC d_Tr_greatestAt_1 rfl 1 rfl ?_
  refine z_callV (q0 := 0) (ci := 7) (w' := [(t0, .inr (7, [.ref t1, .ref t2, .ref t3, .ref t4, .int (iI ((tn : Nat) : Int))])), (t1, .inl ((g.2.1 0), 40, .inl (q1 nd))), (t2, .inl ((g.2.1 0), 40, .inl (q2 nd))), (t3, .inl ((g.2.1 0), 40, .inl (q3 nd))), (t4, .inl ((g.2.1 0), 40, .inl (q4 nd)))]) (st1 := [.int (iI (bI (decide (0 ≤ i ∧ i < tn))))]) hC (k_Tr_has l g t0 t1 t2 t3 t4 tn nd i htn hi) mw_489 zv_Tr_has rfl rfl ⟨Nat.le_of_ble_eq_true rfl, Nat.le_of_ble_eq_true rfl⟩ [0, 1, 2, 3, 4] rfl rfl rfl rfl rfl rfl rfl rfl (Nat.le_of_ble_eq_true rfl) d_Tr_greatestAt_2 rfl ⟨Nat.zero_le _, Nat.zero_le _⟩ rfl ?_
  refine z_ifeqD (tgt := 17) hC d_Tr_greatestAt_5 rfl (fun c_1 => ?_) (fun c_1 => ?_)
  · refine z_iconst hC d_Tr_greatestAt_17 ?_
    exact Z.eq rfl rfl rfl (by first | (rw [tA, if_pos (by omega)]; rfl) | (rw [tA, if_neg (by omega)]; rfl)) (hR _ _ d_Tr_greatestAt_18)
  · refine z_aload_n hC d_Tr_greatestAt_8 rfl 0 rfl ?_
    refine z_get hC hi_Tr 0 rfl rfl 3 (by decide) mw_134 (Or.inl rfl) rfl d_Tr_greatestAt_9 ?_
    refine z_iload_n hC d_Tr_greatestAt_12 rfl 1 rfl ?_
    refine z_iald hC 4 0 rfl rfl ((i).toNat) (by omega) (by omega) (by decide) d_Tr_greatestAt_13 ?_
    refine z_goto (tgt := 18) hC d_Tr_greatestAt_14 rfl ?_
    exact Z.eq rfl rfl rfl (by first | (rw [tA, if_pos (by omega)]; rfl) | (rw [tA, if_neg (by omega)]; rfl)) (hR _ _ d_Tr_greatestAt_18)
set_option maxHeartbeats 4000000 in
set_option maxRecDepth 100000 in
theorem k_Tr_greatestAt_N (l : Launch) (g : ZG) (t0 t1 t2 t3 t4 tn : Nat) (nd : Nat → QD) (k : Nat) (htn : tn ≤ 40) (hk : k < tn)  : Ct l g y_Tr_greatestAt c_Tr_greatestAt 2 (some .int) { frames := 1, cells := 0, slots := 0, locals := 21 } [.ref t0, .int (iI ((k : Nat) : Int))] [(t0, .inr (7, [.ref t1, .ref t2, .ref t3, .ref t4, .int (iI ((tn : Nat) : Int))])), (t1, .inl ((g.2.1 0), 40, .inl (q1 nd))), (t2, .inl ((g.2.1 0), 40, .inl (q2 nd))), (t3, .inl ((g.2.1 0), 40, .inl (q3 nd))), (t4, .inl ((g.2.1 0), 40, .inl (q4 nd)))] (some (.int ((nd k).2.2.2))) [(t0, .inr (7, [.ref t1, .ref t2, .ref t3, .ref t4, .int (iI ((tn : Nat) : Int))])), (t1, .inl ((g.2.1 0), 40, .inl (q1 nd))), (t2, .inl ((g.2.1 0), 40, .inl (q2 nd))), (t3, .inl ((g.2.1 0), 40, .inl (q3 nd))), (t4, .inl ((g.2.1 0), 40, .inl (q4 nd)))] := by
  refine ct_i (lv := [(0, .ref t0), (1, .int (iI ((k : Nat) : Int)))]) (by decide) rfl (Nat.le_of_ble_eq_true rfl) rfl ?_
  intro x hC hR
  refine z_aload_n hC d_Tr_greatestAt_0 rfl 0 rfl ?_
  refine z_iload_n hC d_Tr_greatestAt_1 rfl 1 rfl ?_
  refine z_callV (q0 := 0) (ci := 7) (w' := [(t0, .inr (7, [.ref t1, .ref t2, .ref t3, .ref t4, .int (iI ((tn : Nat) : Int))])), (t1, .inl ((g.2.1 0), 40, .inl (q1 nd))), (t2, .inl ((g.2.1 0), 40, .inl (q2 nd))), (t3, .inl ((g.2.1 0), 40, .inl (q3 nd))), (t4, .inl ((g.2.1 0), 40, .inl (q4 nd)))]) (st1 := [.int (iI (bI (decide (0 ≤ ((k : Nat) : Int) ∧ ((k : Nat) : Int) < tn))))]) hC (k_Tr_has l g t0 t1 t2 t3 t4 tn nd ((k : Nat) : Int) htn (by omega)) mw_489 zv_Tr_has rfl rfl ⟨Nat.le_of_ble_eq_true rfl, Nat.le_of_ble_eq_true rfl⟩ [0, 1, 2, 3, 4] rfl rfl rfl rfl rfl rfl rfl rfl (Nat.le_of_ble_eq_true rfl) d_Tr_greatestAt_2 rfl ⟨Nat.zero_le _, Nat.zero_le _⟩ rfl ?_
  refine z_ifeqD (tgt := 17) hC d_Tr_greatestAt_5 rfl (fun c_1 => ?_) (fun c_1 => ?_)
  · refine z_iconst hC d_Tr_greatestAt_17 ?_
    exact Z.eq rfl rfl rfl (by first | rfl | (exfalso; omega)) (hR _ _ d_Tr_greatestAt_18)
  · refine z_aload_n hC d_Tr_greatestAt_8 rfl 0 rfl ?_
    refine z_get hC hi_Tr 0 rfl rfl 3 (by decide) mw_134 (Or.inl rfl) rfl d_Tr_greatestAt_9 ?_
    refine z_iload_n hC d_Tr_greatestAt_12 rfl 1 rfl ?_
    refine z_iald hC 4 0 rfl rfl k rfl (by omega) (by decide) d_Tr_greatestAt_13 ?_
    refine z_goto (tgt := 18) hC d_Tr_greatestAt_14 rfl ?_
    exact Z.eq rfl rfl rfl (by first | rfl | (exfalso; omega)) (hR _ _ d_Tr_greatestAt_18)
set_option maxHeartbeats 4000000 in
set_option maxRecDepth 100000 in
theorem k_Tr_put (l : Launch) (g : ZG) (t0 t1 t2 t3 t4 tn : Nat) (nd : Nat → QD) (k : Nat) (a b c d : Int32) (htn : tn ≤ 40) (hk : k < tn)  : Ct l g y_Tr_put c_Tr_put 6 none { frames := 1, cells := 0, slots := 0, locals := 21 } [.ref t0, .int (iI ((k : Nat) : Int)), .int a, .int b, .int c, .int d] [(t0, .inr (7, [.ref t1, .ref t2, .ref t3, .ref t4, .int (iI ((tn : Nat) : Int))])), (t1, .inl ((g.2.1 0), 40, .inl (q1 nd))), (t2, .inl ((g.2.1 0), 40, .inl (q2 nd))), (t3, .inl ((g.2.1 0), 40, .inl (q3 nd))), (t4, .inl ((g.2.1 0), 40, .inl (q4 nd)))] none [(t0, .inr (7, [.ref t1, .ref t2, .ref t3, .ref t4, .int (iI ((tn : Nat) : Int))])), (t1, .inl ((g.2.1 0), 40, .inl (q1 (up nd k (a, b, c, d))))), (t2, .inl ((g.2.1 0), 40, .inl (q2 (up nd k (a, b, c, d))))), (t3, .inl ((g.2.1 0), 40, .inl (q3 (up nd k (a, b, c, d))))), (t4, .inl ((g.2.1 0), 40, .inl (q4 (up nd k (a, b, c, d)))))] := by
  refine ct_v (lv := [(0, .ref t0), (1, .int (iI ((k : Nat) : Int))), (2, .int a), (3, .int b), (4, .int c), (5, .int d)]) (by decide) rfl (Nat.le_of_ble_eq_true rfl) rfl ?_
  intro x hC hR
  refine z_aload_n hC d_Tr_put_0 rfl 0 rfl ?_
  refine z_iload_n hC d_Tr_put_1 rfl 1 rfl ?_
  refine z_callV (q0 := 0) (ci := 7) (w' := [(t0, .inr (7, [.ref t1, .ref t2, .ref t3, .ref t4, .int (iI ((tn : Nat) : Int))])), (t1, .inl ((g.2.1 0), 40, .inl (q1 nd))), (t2, .inl ((g.2.1 0), 40, .inl (q2 nd))), (t3, .inl ((g.2.1 0), 40, .inl (q3 nd))), (t4, .inl ((g.2.1 0), 40, .inl (q4 nd)))]) (st1 := [.int (iI (bI (decide (0 ≤ ((k : Nat) : Int) ∧ ((k : Nat) : Int) < tn))))]) hC (k_Tr_has l g t0 t1 t2 t3 t4 tn nd ((k : Nat) : Int) htn (by omega)) mw_489 zv_Tr_has rfl rfl ⟨Nat.le_of_ble_eq_true rfl, Nat.le_of_ble_eq_true rfl⟩ [0, 1, 2, 3, 4] rfl rfl rfl rfl rfl rfl rfl rfl (Nat.le_of_ble_eq_true rfl) d_Tr_put_2 rfl ⟨Nat.zero_le _, Nat.zero_le _⟩ rfl ?_
  refine z_ifeqD (tgt := 38) hC d_Tr_put_5 rfl (fun c_1 => ?_) (fun c_1 => ?_)
  · exact Z.eq (by first | (exfalso; omega) | (rw [q1_up nd k a b c d, q2_up nd k a b c d, q3_up nd k a b c d, q4_up nd k a b c d])) rfl rfl rfl (hR _ _ d_Tr_put_38)
  · refine z_aload_n hC d_Tr_put_8 rfl 0 rfl ?_
    refine z_get hC hi_Tr 0 rfl rfl 0 (by decide) mw_131 (Or.inl rfl) rfl d_Tr_put_9 ?_
    refine z_iload_n hC d_Tr_put_12 rfl 1 rfl ?_
    refine z_iload_n hC d_Tr_put_13 rfl 2 rfl ?_
    refine z_iast (v := a) (w' := [(t0, .inr (7, [.ref t1, .ref t2, .ref t3, .ref t4, .int (iI ((tn : Nat) : Int))])), (t1, .inl ((g.2.1 0), 40, .inl (upd (q1 nd) k a))), (t2, .inl ((g.2.1 0), 40, .inl (q2 nd))), (t3, .inl ((g.2.1 0), 40, .inl (q3 nd))), (t4, .inl ((g.2.1 0), 40, .inl (q4 nd)))]) hC 1 0 rfl rfl k rfl (by omega) (by decide) rfl d_Tr_put_14 ?_
    refine z_aload_n hC d_Tr_put_15 rfl 0 rfl ?_
    refine z_get hC hi_Tr 0 rfl rfl 1 (by decide) mw_132 (Or.inl rfl) rfl d_Tr_put_16 ?_
    refine z_iload_n hC d_Tr_put_19 rfl 1 rfl ?_
    refine z_iload_n hC d_Tr_put_20 rfl 3 rfl ?_
    refine z_iast (v := b) (w' := [(t0, .inr (7, [.ref t1, .ref t2, .ref t3, .ref t4, .int (iI ((tn : Nat) : Int))])), (t1, .inl ((g.2.1 0), 40, .inl (upd (q1 nd) k a))), (t2, .inl ((g.2.1 0), 40, .inl (upd (q2 nd) k b))), (t3, .inl ((g.2.1 0), 40, .inl (q3 nd))), (t4, .inl ((g.2.1 0), 40, .inl (q4 nd)))]) hC 2 0 rfl rfl k rfl (by omega) (by decide) rfl d_Tr_put_21 ?_
    refine z_aload_n hC d_Tr_put_22 rfl 0 rfl ?_
    refine z_get hC hi_Tr 0 rfl rfl 2 (by decide) mw_133 (Or.inl rfl) rfl d_Tr_put_23 ?_
    refine z_iload_n hC d_Tr_put_26 rfl 1 rfl ?_
    refine z_iload hC d_Tr_put_27 4 rfl ?_
    refine z_iast (v := c) (w' := [(t0, .inr (7, [.ref t1, .ref t2, .ref t3, .ref t4, .int (iI ((tn : Nat) : Int))])), (t1, .inl ((g.2.1 0), 40, .inl (upd (q1 nd) k a))), (t2, .inl ((g.2.1 0), 40, .inl (upd (q2 nd) k b))), (t3, .inl ((g.2.1 0), 40, .inl (upd (q3 nd) k c))), (t4, .inl ((g.2.1 0), 40, .inl (q4 nd)))]) hC 3 0 rfl rfl k rfl (by omega) (by decide) rfl d_Tr_put_29 ?_
    refine z_aload_n hC d_Tr_put_30 rfl 0 rfl ?_
    refine z_get hC hi_Tr 0 rfl rfl 3 (by decide) mw_134 (Or.inl rfl) rfl d_Tr_put_31 ?_
    refine z_iload_n hC d_Tr_put_34 rfl 1 rfl ?_
    refine z_iload hC d_Tr_put_35 5 rfl ?_
    refine z_iast (v := d) (w' := [(t0, .inr (7, [.ref t1, .ref t2, .ref t3, .ref t4, .int (iI ((tn : Nat) : Int))])), (t1, .inl ((g.2.1 0), 40, .inl (upd (q1 nd) k a))), (t2, .inl ((g.2.1 0), 40, .inl (upd (q2 nd) k b))), (t3, .inl ((g.2.1 0), 40, .inl (upd (q3 nd) k c))), (t4, .inl ((g.2.1 0), 40, .inl (upd (q4 nd) k d)))]) hC 4 0 rfl rfl k rfl (by omega) (by decide) rfl d_Tr_put_37 ?_
    exact Z.eq (by first | (exfalso; omega) | (rw [q1_up nd k a b c d, q2_up nd k a b c d, q3_up nd k a b c d, q4_up nd k a b c d])) rfl rfl rfl (hR _ _ d_Tr_put_38)
set_option maxHeartbeats 4000000 in
set_option maxRecDepth 100000 in
theorem k_Tr_append (l : Launch) (g : ZG) (t0 t1 t2 t3 t4 tn : Nat) (nd : Nat → QD) (a b c d : Int32) (htn : tn ≤ 40)  : Ct l g y_Tr_append c_Tr_append 5 (some .boolean) { frames := 2, cells := 0, slots := 0, locals := 46 } [.ref t0, .int a, .int b, .int c, .int d] [(t0, .inr (7, [.ref t1, .ref t2, .ref t3, .ref t4, .int (iI ((tn : Nat) : Int))])), (t1, .inl ((g.2.1 0), 40, .inl (q1 nd))), (t2, .inl ((g.2.1 0), 40, .inl (q2 nd))), (t3, .inl ((g.2.1 0), 40, .inl (q3 nd))), (t4, .inl ((g.2.1 0), 40, .inl (q4 nd)))] (some (.int (iI (bI (decide (tn < 40)))))) [(t0, .inr (7, [.ref t1, .ref t2, .ref t3, .ref t4, .int (iI ((if tn < 40 then tn + 1 else tn : Nat) : Int))])), (t1, .inl ((g.2.1 0), 40, .inl (q1 (if tn < 40 then up nd tn (a, b, c, d) else nd)))), (t2, .inl ((g.2.1 0), 40, .inl (q2 (if tn < 40 then up nd tn (a, b, c, d) else nd)))), (t3, .inl ((g.2.1 0), 40, .inl (q3 (if tn < 40 then up nd tn (a, b, c, d) else nd)))), (t4, .inl ((g.2.1 0), 40, .inl (q4 (if tn < 40 then up nd tn (a, b, c, d) else nd))))] := by
  refine ct_z (lv := [(0, .ref t0), (1, .int a), (2, .int b), (3, .int c), (4, .int d)]) (by decide) rfl (Nat.le_of_ble_eq_true rfl) rfl ?_
  intro x hC hR
  refine z_aload_n hC d_Tr_append_0 rfl 0 rfl ?_
  refine z_callV (q0 := 0) (ci := 7) (w' := [(t0, .inr (7, [.ref t1, .ref t2, .ref t3, .ref t4, .int (iI ((tn : Nat) : Int))])), (t1, .inl ((g.2.1 0), 40, .inl (q1 nd))), (t2, .inl ((g.2.1 0), 40, .inl (q2 nd))), (t3, .inl ((g.2.1 0), 40, .inl (q3 nd))), (t4, .inl ((g.2.1 0), 40, .inl (q4 nd)))]) (st1 := [.int (iI (bI (decide (40 ≤ tn))))]) hC (k_Tr_isFull l g t0 t1 t2 t3 t4 tn nd htn) mw_484 zv_Tr_isFull rfl rfl ⟨Nat.le_of_ble_eq_true rfl, Nat.le_of_ble_eq_true rfl⟩ [0, 1, 2, 3, 4] rfl rfl rfl rfl rfl rfl rfl rfl (Nat.le_of_ble_eq_true rfl) d_Tr_append_1 rfl ⟨Nat.zero_le _, Nat.zero_le _⟩ rfl ?_
  refine z_ifeqD (tgt := 9) hC d_Tr_append_4 rfl (fun c_1 => ?_) (fun c_1 => ?_)
  · refine z_aload_n hC d_Tr_append_9 rfl 0 rfl ?_
    refine z_dup hC d_Tr_append_10 rfl ?_
    refine z_get hC hi_Tr 0 rfl rfl 4 (by decide) mw_135 (Or.inl rfl) rfl d_Tr_append_11 ?_
    refine z_iconstN hC 1 d_Tr_append_14 rfl ?_
    refine z_iaddN hC d_Tr_append_15 ?_
    refine z_put (v := .int (iI ((tn + 1 : Nat) : Int))) (ty := .int) (w' := [(t0, .inr (7, [.ref t1, .ref t2, .ref t3, .ref t4, .int (iI ((tn + 1 : Nat) : Int))])), (t1, .inl ((g.2.1 0), 40, .inl (q1 nd))), (t2, .inl ((g.2.1 0), 40, .inl (q2 nd))), (t3, .inl ((g.2.1 0), 40, .inl (q3 nd))), (t4, .inl ((g.2.1 0), 40, .inl (q4 nd)))]) hC hi_Tr ty_Tr ok_Tr nm_Tr 0 rfl rfl 4 (by decide) mw_135 rfl rfl rfl rfl rfl (Nat.le_of_ble_eq_true rfl) rfl d_Tr_append_16 ?_
    refine z_aload_n hC d_Tr_append_19 rfl 0 rfl ?_
    refine z_aload_n hC d_Tr_append_20 rfl 0 rfl ?_
    refine z_get hC hi_Tr 0 rfl rfl 4 (by decide) mw_135 (Or.inl rfl) rfl d_Tr_append_21 ?_
    refine z_iconstN hC 1 d_Tr_append_24 rfl ?_
    refine z_isubN hC d_Tr_append_25 (by omega) ?_
    refine z_iload_n hC d_Tr_append_26 rfl 1 rfl ?_
    refine z_iload_n hC d_Tr_append_27 rfl 2 rfl ?_
    refine z_iload_n hC d_Tr_append_28 rfl 3 rfl ?_
    refine z_iload hC d_Tr_append_29 4 rfl ?_
    refine z_callV (q0 := 0) (ci := 7) (w' := [(t0, .inr (7, [.ref t1, .ref t2, .ref t3, .ref t4, .int (iI (((tn + 1) : Nat) : Int))])), (t1, .inl ((g.2.1 0), 40, .inl (q1 (up nd ((tn + 1) - 1) (a, b, c, d))))), (t2, .inl ((g.2.1 0), 40, .inl (q2 (up nd ((tn + 1) - 1) (a, b, c, d))))), (t3, .inl ((g.2.1 0), 40, .inl (q3 (up nd ((tn + 1) - 1) (a, b, c, d))))), (t4, .inl ((g.2.1 0), 40, .inl (q4 (up nd ((tn + 1) - 1) (a, b, c, d)))))]) (st1 := []) hC (k_Tr_put l g t0 t1 t2 t3 t4 (tn + 1) nd ((tn + 1) - 1) a b c d (by omega) (by omega)) mw_485 zv_Tr_put rfl rfl ⟨Nat.le_of_ble_eq_true rfl, Nat.le_of_ble_eq_true rfl⟩ [0, 1, 2, 3, 4] rfl rfl rfl rfl rfl rfl rfl rfl (Nat.le_of_ble_eq_true rfl) d_Tr_append_31 rfl ⟨Nat.zero_le _, Nat.zero_le _⟩ rfl ?_
    refine z_iconstN hC 1 d_Tr_append_34 rfl ?_
    exact Z.eq (by first | (rw [if_pos (by omega), if_pos (by omega)]; rfl) | (rw [if_neg (by omega), if_neg (by omega)]; done)) rfl rfl (zb_t (decide_eq_true (by omega))) (hR _ _ d_Tr_append_35)
  · refine z_iconstN hC 0 d_Tr_append_7 rfl ?_
    exact Z.eq (by first | (rw [if_pos (by omega), if_pos (by omega)]; rfl) | (rw [if_neg (by omega), if_neg (by omega)]; done)) rfl rfl (zb_f (decide_eq_false (by omega))) (hR _ _ d_Tr_append_8)
set_option maxHeartbeats 4000000 in
set_option maxRecDepth 100000 in
theorem k_Tr_copyNode (l : Launch) (g : ZG) (t0 t1 t2 t3 t4 tn : Nat) (nd : Nat → QD) (o0 o1 o2 o3 o4 on : Nat) (od : Nat → QD) (k j : Nat) (htn : tn ≤ 40) (hon : on ≤ 40) (hk : k < tn) (hj : j < on)  : Ct l g y_Tr_copyNode c_Tr_copyNode 4 none { frames := 2, cells := 0, slots := 0, locals := 46 } [.ref t0, .int (iI ((k : Nat) : Int)), .ref o0, .int (iI ((j : Nat) : Int))] [(t0, .inr (7, [.ref t1, .ref t2, .ref t3, .ref t4, .int (iI ((tn : Nat) : Int))])), (t1, .inl ((g.2.1 0), 40, .inl (q1 nd))), (t2, .inl ((g.2.1 0), 40, .inl (q2 nd))), (t3, .inl ((g.2.1 0), 40, .inl (q3 nd))), (t4, .inl ((g.2.1 0), 40, .inl (q4 nd))), (o0, .inr (7, [.ref o1, .ref o2, .ref o3, .ref o4, .int (iI ((on : Nat) : Int))])), (o1, .inl ((g.2.1 0), 40, .inl (q1 od))), (o2, .inl ((g.2.1 0), 40, .inl (q2 od))), (o3, .inl ((g.2.1 0), 40, .inl (q3 od))), (o4, .inl ((g.2.1 0), 40, .inl (q4 od)))] none [(t0, .inr (7, [.ref t1, .ref t2, .ref t3, .ref t4, .int (iI ((tn : Nat) : Int))])), (t1, .inl ((g.2.1 0), 40, .inl (q1 (up nd k (od j))))), (t2, .inl ((g.2.1 0), 40, .inl (q2 (up nd k (od j))))), (t3, .inl ((g.2.1 0), 40, .inl (q3 (up nd k (od j))))), (t4, .inl ((g.2.1 0), 40, .inl (q4 (up nd k (od j))))), (o0, .inr (7, [.ref o1, .ref o2, .ref o3, .ref o4, .int (iI ((on : Nat) : Int))])), (o1, .inl ((g.2.1 0), 40, .inl (q1 od))), (o2, .inl ((g.2.1 0), 40, .inl (q2 od))), (o3, .inl ((g.2.1 0), 40, .inl (q3 od))), (o4, .inl ((g.2.1 0), 40, .inl (q4 od)))] := by
  refine ct_v (lv := [(0, .ref t0), (1, .int (iI ((k : Nat) : Int))), (2, .ref o0), (3, .int (iI ((j : Nat) : Int)))]) (by decide) rfl (Nat.le_of_ble_eq_true rfl) rfl ?_
  intro x hC hR
  refine z_aload_n hC d_Tr_copyNode_0 rfl 0 rfl ?_
  refine z_iload_n hC d_Tr_copyNode_1 rfl 1 rfl ?_
  refine z_aload_n hC d_Tr_copyNode_2 rfl 2 rfl ?_
  refine z_iload_n hC d_Tr_copyNode_3 rfl 3 rfl ?_
  refine z_callV (q0 := 5) (ci := 7) (w' := [(t0, .inr (7, [.ref t1, .ref t2, .ref t3, .ref t4, .int (iI ((tn : Nat) : Int))])), (t1, .inl ((g.2.1 0), 40, .inl (q1 nd))), (t2, .inl ((g.2.1 0), 40, .inl (q2 nd))), (t3, .inl ((g.2.1 0), 40, .inl (q3 nd))), (t4, .inl ((g.2.1 0), 40, .inl (q4 nd))), (o0, .inr (7, [.ref o1, .ref o2, .ref o3, .ref o4, .int (iI ((on : Nat) : Int))])), (o1, .inl ((g.2.1 0), 40, .inl (q1 od))), (o2, .inl ((g.2.1 0), 40, .inl (q2 od))), (o3, .inl ((g.2.1 0), 40, .inl (q3 od))), (o4, .inl ((g.2.1 0), 40, .inl (q4 od)))]) (st1 := [.int ((od j).1), .int (iI ((k : Nat) : Int)), .ref t0]) hC (k_Tr_sortAt_N l g o0 o1 o2 o3 o4 on od j hon hj) mw_515 zv_Tr_sortAt rfl rfl ⟨Nat.le_of_ble_eq_true rfl, Nat.le_of_ble_eq_true rfl⟩ [5, 6, 7, 8, 9] rfl rfl rfl rfl rfl rfl rfl rfl (Nat.le_of_ble_eq_true rfl) d_Tr_copyNode_4 rfl ⟨Nat.zero_le _, Nat.zero_le _⟩ rfl ?_
  refine z_aload_n hC d_Tr_copyNode_7 rfl 2 rfl ?_
  refine z_iload_n hC d_Tr_copyNode_8 rfl 3 rfl ?_
  refine z_callV (q0 := 5) (ci := 7) (w' := [(t0, .inr (7, [.ref t1, .ref t2, .ref t3, .ref t4, .int (iI ((tn : Nat) : Int))])), (t1, .inl ((g.2.1 0), 40, .inl (q1 nd))), (t2, .inl ((g.2.1 0), 40, .inl (q2 nd))), (t3, .inl ((g.2.1 0), 40, .inl (q3 nd))), (t4, .inl ((g.2.1 0), 40, .inl (q4 nd))), (o0, .inr (7, [.ref o1, .ref o2, .ref o3, .ref o4, .int (iI ((on : Nat) : Int))])), (o1, .inl ((g.2.1 0), 40, .inl (q1 od))), (o2, .inl ((g.2.1 0), 40, .inl (q2 od))), (o3, .inl ((g.2.1 0), 40, .inl (q3 od))), (o4, .inl ((g.2.1 0), 40, .inl (q4 od)))]) (st1 := [.int ((od j).2.1), .int ((od j).1), .int (iI ((k : Nat) : Int)), .ref t0]) hC (k_Tr_indexAt_N l g o0 o1 o2 o3 o4 on od j hon hj) mw_519 zv_Tr_indexAt rfl rfl ⟨Nat.le_of_ble_eq_true rfl, Nat.le_of_ble_eq_true rfl⟩ [5, 6, 7, 8, 9] rfl rfl rfl rfl rfl rfl rfl rfl (Nat.le_of_ble_eq_true rfl) d_Tr_copyNode_9 rfl ⟨Nat.zero_le _, Nat.zero_le _⟩ rfl ?_
  refine z_aload_n hC d_Tr_copyNode_12 rfl 2 rfl ?_
  refine z_iload_n hC d_Tr_copyNode_13 rfl 3 rfl ?_
  refine z_callV (q0 := 5) (ci := 7) (w' := [(t0, .inr (7, [.ref t1, .ref t2, .ref t3, .ref t4, .int (iI ((tn : Nat) : Int))])), (t1, .inl ((g.2.1 0), 40, .inl (q1 nd))), (t2, .inl ((g.2.1 0), 40, .inl (q2 nd))), (t3, .inl ((g.2.1 0), 40, .inl (q3 nd))), (t4, .inl ((g.2.1 0), 40, .inl (q4 nd))), (o0, .inr (7, [.ref o1, .ref o2, .ref o3, .ref o4, .int (iI ((on : Nat) : Int))])), (o1, .inl ((g.2.1 0), 40, .inl (q1 od))), (o2, .inl ((g.2.1 0), 40, .inl (q2 od))), (o3, .inl ((g.2.1 0), 40, .inl (q3 od))), (o4, .inl ((g.2.1 0), 40, .inl (q4 od)))]) (st1 := [.int ((od j).2.2.1), .int ((od j).2.1), .int ((od j).1), .int (iI ((k : Nat) : Int)), .ref t0]) hC (k_Tr_leastAt_N l g o0 o1 o2 o3 o4 on od j hon hj) mw_523 zv_Tr_leastAt rfl rfl ⟨Nat.le_of_ble_eq_true rfl, Nat.le_of_ble_eq_true rfl⟩ [5, 6, 7, 8, 9] rfl rfl rfl rfl rfl rfl rfl rfl (Nat.le_of_ble_eq_true rfl) d_Tr_copyNode_14 rfl ⟨Nat.zero_le _, Nat.zero_le _⟩ rfl ?_
  refine z_aload_n hC d_Tr_copyNode_17 rfl 2 rfl ?_
  refine z_iload_n hC d_Tr_copyNode_18 rfl 3 rfl ?_
  refine z_callV (q0 := 5) (ci := 7) (w' := [(t0, .inr (7, [.ref t1, .ref t2, .ref t3, .ref t4, .int (iI ((tn : Nat) : Int))])), (t1, .inl ((g.2.1 0), 40, .inl (q1 nd))), (t2, .inl ((g.2.1 0), 40, .inl (q2 nd))), (t3, .inl ((g.2.1 0), 40, .inl (q3 nd))), (t4, .inl ((g.2.1 0), 40, .inl (q4 nd))), (o0, .inr (7, [.ref o1, .ref o2, .ref o3, .ref o4, .int (iI ((on : Nat) : Int))])), (o1, .inl ((g.2.1 0), 40, .inl (q1 od))), (o2, .inl ((g.2.1 0), 40, .inl (q2 od))), (o3, .inl ((g.2.1 0), 40, .inl (q3 od))), (o4, .inl ((g.2.1 0), 40, .inl (q4 od)))]) (st1 := [.int ((od j).2.2.2), .int ((od j).2.2.1), .int ((od j).2.1), .int ((od j).1), .int (iI ((k : Nat) : Int)), .ref t0]) hC (k_Tr_greatestAt_N l g o0 o1 o2 o3 o4 on od j hon hj) mw_527 zv_Tr_greatestAt rfl rfl ⟨Nat.le_of_ble_eq_true rfl, Nat.le_of_ble_eq_true rfl⟩ [5, 6, 7, 8, 9] rfl rfl rfl rfl rfl rfl rfl rfl (Nat.le_of_ble_eq_true rfl) d_Tr_copyNode_19 rfl ⟨Nat.zero_le _, Nat.zero_le _⟩ rfl ?_
  refine z_callV (q0 := 0) (ci := 7) (w' := [(t0, .inr (7, [.ref t1, .ref t2, .ref t3, .ref t4, .int (iI ((tn : Nat) : Int))])), (t1, .inl ((g.2.1 0), 40, .inl (q1 (up nd k (((od j).1), ((od j).2.1), ((od j).2.2.1), ((od j).2.2.2)))))), (t2, .inl ((g.2.1 0), 40, .inl (q2 (up nd k (((od j).1), ((od j).2.1), ((od j).2.2.1), ((od j).2.2.2)))))), (t3, .inl ((g.2.1 0), 40, .inl (q3 (up nd k (((od j).1), ((od j).2.1), ((od j).2.2.1), ((od j).2.2.2)))))), (t4, .inl ((g.2.1 0), 40, .inl (q4 (up nd k (((od j).1), ((od j).2.1), ((od j).2.2.1), ((od j).2.2.2)))))), (o0, .inr (7, [.ref o1, .ref o2, .ref o3, .ref o4, .int (iI ((on : Nat) : Int))])), (o1, .inl ((g.2.1 0), 40, .inl (q1 od))), (o2, .inl ((g.2.1 0), 40, .inl (q2 od))), (o3, .inl ((g.2.1 0), 40, .inl (q3 od))), (o4, .inl ((g.2.1 0), 40, .inl (q4 od)))]) (st1 := []) hC (k_Tr_put l g t0 t1 t2 t3 t4 tn nd k ((od j).1) ((od j).2.1) ((od j).2.2.1) ((od j).2.2.2) htn hk) mw_485 zv_Tr_put rfl rfl ⟨Nat.le_of_ble_eq_true rfl, Nat.le_of_ble_eq_true rfl⟩ [0, 1, 2, 3, 4] rfl rfl rfl rfl rfl rfl rfl rfl (Nat.le_of_ble_eq_true rfl) d_Tr_copyNode_22 rfl ⟨Nat.zero_le _, Nat.zero_le _⟩ rfl ?_
  exact Z.eq rfl rfl rfl rfl (hR _ _ d_Tr_copyNode_25)
set_option maxHeartbeats 4000000 in
set_option maxRecDepth 100000 in
theorem k_Tr_copyNode_s (l : Launch) (g : ZG) (t0 t1 t2 t3 t4 tn : Nat) (nd : Nat → QD) (k j : Nat) (htn : tn ≤ 40) (hk : k < tn) (hj : j < tn)  : Ct l g y_Tr_copyNode c_Tr_copyNode 4 none { frames := 2, cells := 0, slots := 0, locals := 46 } [.ref t0, .int (iI ((k : Nat) : Int)), .ref t0, .int (iI ((j : Nat) : Int))] [(t0, .inr (7, [.ref t1, .ref t2, .ref t3, .ref t4, .int (iI ((tn : Nat) : Int))])), (t1, .inl ((g.2.1 0), 40, .inl (q1 nd))), (t2, .inl ((g.2.1 0), 40, .inl (q2 nd))), (t3, .inl ((g.2.1 0), 40, .inl (q3 nd))), (t4, .inl ((g.2.1 0), 40, .inl (q4 nd)))] none [(t0, .inr (7, [.ref t1, .ref t2, .ref t3, .ref t4, .int (iI ((tn : Nat) : Int))])), (t1, .inl ((g.2.1 0), 40, .inl (q1 (up nd k (nd j))))), (t2, .inl ((g.2.1 0), 40, .inl (q2 (up nd k (nd j))))), (t3, .inl ((g.2.1 0), 40, .inl (q3 (up nd k (nd j))))), (t4, .inl ((g.2.1 0), 40, .inl (q4 (up nd k (nd j)))))] := by
  refine ct_v (lv := [(0, .ref t0), (1, .int (iI ((k : Nat) : Int))), (2, .ref t0), (3, .int (iI ((j : Nat) : Int)))]) (by decide) rfl (Nat.le_of_ble_eq_true rfl) rfl ?_
  intro x hC hR
  refine z_aload_n hC d_Tr_copyNode_0 rfl 0 rfl ?_
  refine z_iload_n hC d_Tr_copyNode_1 rfl 1 rfl ?_
  refine z_aload_n hC d_Tr_copyNode_2 rfl 2 rfl ?_
  refine z_iload_n hC d_Tr_copyNode_3 rfl 3 rfl ?_
  refine z_callV (q0 := 0) (ci := 7) (w' := [(t0, .inr (7, [.ref t1, .ref t2, .ref t3, .ref t4, .int (iI ((tn : Nat) : Int))])), (t1, .inl ((g.2.1 0), 40, .inl (q1 nd))), (t2, .inl ((g.2.1 0), 40, .inl (q2 nd))), (t3, .inl ((g.2.1 0), 40, .inl (q3 nd))), (t4, .inl ((g.2.1 0), 40, .inl (q4 nd)))]) (st1 := [.int ((nd j).1), .int (iI ((k : Nat) : Int)), .ref t0]) hC (k_Tr_sortAt_N l g t0 t1 t2 t3 t4 tn nd j htn hj) mw_515 zv_Tr_sortAt rfl rfl ⟨Nat.le_of_ble_eq_true rfl, Nat.le_of_ble_eq_true rfl⟩ [0, 1, 2, 3, 4] rfl rfl rfl rfl rfl rfl rfl rfl (Nat.le_of_ble_eq_true rfl) d_Tr_copyNode_4 rfl ⟨Nat.zero_le _, Nat.zero_le _⟩ rfl ?_
  refine z_aload_n hC d_Tr_copyNode_7 rfl 2 rfl ?_
  refine z_iload_n hC d_Tr_copyNode_8 rfl 3 rfl ?_
  refine z_callV (q0 := 0) (ci := 7) (w' := [(t0, .inr (7, [.ref t1, .ref t2, .ref t3, .ref t4, .int (iI ((tn : Nat) : Int))])), (t1, .inl ((g.2.1 0), 40, .inl (q1 nd))), (t2, .inl ((g.2.1 0), 40, .inl (q2 nd))), (t3, .inl ((g.2.1 0), 40, .inl (q3 nd))), (t4, .inl ((g.2.1 0), 40, .inl (q4 nd)))]) (st1 := [.int ((nd j).2.1), .int ((nd j).1), .int (iI ((k : Nat) : Int)), .ref t0]) hC (k_Tr_indexAt_N l g t0 t1 t2 t3 t4 tn nd j htn hj) mw_519 zv_Tr_indexAt rfl rfl ⟨Nat.le_of_ble_eq_true rfl, Nat.le_of_ble_eq_true rfl⟩ [0, 1, 2, 3, 4] rfl rfl rfl rfl rfl rfl rfl rfl (Nat.le_of_ble_eq_true rfl) d_Tr_copyNode_9 rfl ⟨Nat.zero_le _, Nat.zero_le _⟩ rfl ?_
  refine z_aload_n hC d_Tr_copyNode_12 rfl 2 rfl ?_
  refine z_iload_n hC d_Tr_copyNode_13 rfl 3 rfl ?_
  refine z_callV (q0 := 0) (ci := 7) (w' := [(t0, .inr (7, [.ref t1, .ref t2, .ref t3, .ref t4, .int (iI ((tn : Nat) : Int))])), (t1, .inl ((g.2.1 0), 40, .inl (q1 nd))), (t2, .inl ((g.2.1 0), 40, .inl (q2 nd))), (t3, .inl ((g.2.1 0), 40, .inl (q3 nd))), (t4, .inl ((g.2.1 0), 40, .inl (q4 nd)))]) (st1 := [.int ((nd j).2.2.1), .int ((nd j).2.1), .int ((nd j).1), .int (iI ((k : Nat) : Int)), .ref t0]) hC (k_Tr_leastAt_N l g t0 t1 t2 t3 t4 tn nd j htn hj) mw_523 zv_Tr_leastAt rfl rfl ⟨Nat.le_of_ble_eq_true rfl, Nat.le_of_ble_eq_true rfl⟩ [0, 1, 2, 3, 4] rfl rfl rfl rfl rfl rfl rfl rfl (Nat.le_of_ble_eq_true rfl) d_Tr_copyNode_14 rfl ⟨Nat.zero_le _, Nat.zero_le _⟩ rfl ?_
  refine z_aload_n hC d_Tr_copyNode_17 rfl 2 rfl ?_
  refine z_iload_n hC d_Tr_copyNode_18 rfl 3 rfl ?_
  refine z_callV (q0 := 0) (ci := 7) (w' := [(t0, .inr (7, [.ref t1, .ref t2, .ref t3, .ref t4, .int (iI ((tn : Nat) : Int))])), (t1, .inl ((g.2.1 0), 40, .inl (q1 nd))), (t2, .inl ((g.2.1 0), 40, .inl (q2 nd))), (t3, .inl ((g.2.1 0), 40, .inl (q3 nd))), (t4, .inl ((g.2.1 0), 40, .inl (q4 nd)))]) (st1 := [.int ((nd j).2.2.2), .int ((nd j).2.2.1), .int ((nd j).2.1), .int ((nd j).1), .int (iI ((k : Nat) : Int)), .ref t0]) hC (k_Tr_greatestAt_N l g t0 t1 t2 t3 t4 tn nd j htn hj) mw_527 zv_Tr_greatestAt rfl rfl ⟨Nat.le_of_ble_eq_true rfl, Nat.le_of_ble_eq_true rfl⟩ [0, 1, 2, 3, 4] rfl rfl rfl rfl rfl rfl rfl rfl (Nat.le_of_ble_eq_true rfl) d_Tr_copyNode_19 rfl ⟨Nat.zero_le _, Nat.zero_le _⟩ rfl ?_
  refine z_callV (q0 := 0) (ci := 7) (w' := [(t0, .inr (7, [.ref t1, .ref t2, .ref t3, .ref t4, .int (iI ((tn : Nat) : Int))])), (t1, .inl ((g.2.1 0), 40, .inl (q1 (up nd k (((nd j).1), ((nd j).2.1), ((nd j).2.2.1), ((nd j).2.2.2)))))), (t2, .inl ((g.2.1 0), 40, .inl (q2 (up nd k (((nd j).1), ((nd j).2.1), ((nd j).2.2.1), ((nd j).2.2.2)))))), (t3, .inl ((g.2.1 0), 40, .inl (q3 (up nd k (((nd j).1), ((nd j).2.1), ((nd j).2.2.1), ((nd j).2.2.2)))))), (t4, .inl ((g.2.1 0), 40, .inl (q4 (up nd k (((nd j).1), ((nd j).2.1), ((nd j).2.2.1), ((nd j).2.2.2))))))]) (st1 := []) hC (k_Tr_put l g t0 t1 t2 t3 t4 tn nd k ((nd j).1) ((nd j).2.1) ((nd j).2.2.1) ((nd j).2.2.2) htn hk) mw_485 zv_Tr_put rfl rfl ⟨Nat.le_of_ble_eq_true rfl, Nat.le_of_ble_eq_true rfl⟩ [0, 1, 2, 3, 4] rfl rfl rfl rfl rfl rfl rfl rfl (Nat.le_of_ble_eq_true rfl) d_Tr_copyNode_22 rfl ⟨Nat.zero_le _, Nat.zero_le _⟩ rfl ?_
  exact Z.eq rfl rfl rfl rfl (hR _ _ d_Tr_copyNode_25)
set_option maxHeartbeats 4000000 in
set_option maxRecDepth 100000 in
theorem k_Tr_insert (l : Launch) (g : ZG) (t0 t1 t2 t3 t4 tn : Nat) (nd : Nat → QD) (p : Nat) (s : Int32) (htn : tn ≤ 40) (hp : p ≤ tn)  : Ct l g y_Tr_insert c_Tr_insert 4 (some .boolean) { frames := 3, cells := 0, slots := 0, locals := 69 } [.ref t0, .int (iI ((p : Nat) : Int)), .int s] [(t0, .inr (7, [.ref t1, .ref t2, .ref t3, .ref t4, .int (iI ((tn : Nat) : Int))])), (t1, .inl ((g.2.1 0), 40, .inl (q1 nd))), (t2, .inl ((g.2.1 0), 40, .inl (q2 nd))), (t3, .inl ((g.2.1 0), 40, .inl (q3 nd))), (t4, .inl ((g.2.1 0), 40, .inl (q4 nd)))] (some (.int (iI (bI (decide (tn < 40)))))) [(t0, .inr (7, [.ref t1, .ref t2, .ref t3, .ref t4, .int (iI ((if tn < 40 then tn + 1 else tn : Nat) : Int))])), (t1, .inl ((g.2.1 0), 40, .inl (q1 (if tn < 40 then insN nd tn p (s, iI (-1), iI (-1), iI (-1)) else nd)))), (t2, .inl ((g.2.1 0), 40, .inl (q2 (if tn < 40 then insN nd tn p (s, iI (-1), iI (-1), iI (-1)) else nd)))), (t3, .inl ((g.2.1 0), 40, .inl (q3 (if tn < 40 then insN nd tn p (s, iI (-1), iI (-1), iI (-1)) else nd)))), (t4, .inl ((g.2.1 0), 40, .inl (q4 (if tn < 40 then insN nd tn p (s, iI (-1), iI (-1), iI (-1)) else nd))))] := by
  refine ct_z (lv := [(0, .ref t0), (1, .int (iI ((p : Nat) : Int))), (2, .int s)]) (by decide) rfl (Nat.le_of_ble_eq_true rfl) rfl ?_
  intro x hC hR
  refine z_aload_n hC d_Tr_insert_0 rfl 0 rfl ?_
  refine z_callV (q0 := 0) (ci := 7) (w' := [(t0, .inr (7, [.ref t1, .ref t2, .ref t3, .ref t4, .int (iI ((tn : Nat) : Int))])), (t1, .inl ((g.2.1 0), 40, .inl (q1 nd))), (t2, .inl ((g.2.1 0), 40, .inl (q2 nd))), (t3, .inl ((g.2.1 0), 40, .inl (q3 nd))), (t4, .inl ((g.2.1 0), 40, .inl (q4 nd)))]) (st1 := [.int (iI (bI (decide (40 ≤ tn))))]) hC (k_Tr_isFull l g t0 t1 t2 t3 t4 tn nd htn) mw_484 zv_Tr_isFull rfl rfl ⟨Nat.le_of_ble_eq_true rfl, Nat.le_of_ble_eq_true rfl⟩ [0, 1, 2, 3, 4] rfl rfl rfl rfl rfl rfl rfl rfl (Nat.le_of_ble_eq_true rfl) d_Tr_insert_1 rfl ⟨Nat.zero_le _, Nat.zero_le _⟩ rfl ?_
  refine z_ifneD (tgt := 11) hC d_Tr_insert_4 rfl (fun c_1 => ?_) (fun c_1 => ?_)
  · refine z_iconstN hC 0 d_Tr_insert_11 rfl ?_
    exact Z.eq (by first | (exfalso; omega) | (rw [if_pos (by omega), if_pos (by omega), ins_end hm (by omega)]) | (rw [if_neg (by omega), if_neg (by omega)])) rfl rfl (zb_f (decide_eq_false (by omega))) (hR _ _ d_Tr_insert_12)
  · refine z_iload_n hC d_Tr_insert_7 rfl 1 rfl ?_
    refine z_if_ge (tgt := 13) hC ((p : Nat) : Int) d_Tr_insert_8 rfl (iI_t (by omega)) (fun c_2 => ?_) (fun c_2 => ?_)
    · refine z_aload_n hC d_Tr_insert_13 rfl 0 rfl ?_
      refine z_dup hC d_Tr_insert_14 rfl ?_
      refine z_get hC hi_Tr 0 rfl rfl 4 (by decide) mw_135 (Or.inl rfl) rfl d_Tr_insert_15 ?_
      refine z_iconstN hC 1 d_Tr_insert_18 rfl ?_
      refine z_iaddN hC d_Tr_insert_19 ?_
      refine z_put (v := .int (iI ((tn + 1 : Nat) : Int))) (ty := .int) (w' := [(t0, .inr (7, [.ref t1, .ref t2, .ref t3, .ref t4, .int (iI ((tn + 1 : Nat) : Int))])), (t1, .inl ((g.2.1 0), 40, .inl (q1 nd))), (t2, .inl ((g.2.1 0), 40, .inl (q2 nd))), (t3, .inl ((g.2.1 0), 40, .inl (q3 nd))), (t4, .inl ((g.2.1 0), 40, .inl (q4 nd)))]) hC hi_Tr ty_Tr ok_Tr nm_Tr 0 rfl rfl 4 (by decide) mw_135 rfl rfl rfl rfl rfl (Nat.le_of_ble_eq_true rfl) rfl d_Tr_insert_20 ?_
      refine z_aload_n hC d_Tr_insert_23 rfl 0 rfl ?_
      refine z_get hC hi_Tr 0 rfl rfl 4 (by decide) mw_135 (Or.inl rfl) rfl d_Tr_insert_24 ?_
      refine z_iconstN hC 1 d_Tr_insert_27 rfl ?_
      refine z_isubN hC d_Tr_insert_28 (by omega) ?_
      refine z_istore_n (lv' := [(3, .int (iI (((tn + 1) - 1 : Nat) : Int))), (0, .ref t0), (1, .int (iI ((p : Nat) : Int))), (2, .int s)]) hC d_Tr_insert_29 rfl (by decide) rfl ?_
      have L_30 : ∀ (fu : Nat) (i : Nat) (m : Nat → QD), (p ≤ i) → (i ≤ tn) → (∀ k, m k = if i < k ∧ k ≤ tn then nd (k - 1) else nd k) → i < fu → Z x (0, 0) [(t0, .inr (7, [.ref t1, .ref t2, .ref t3, .ref t4, .int (iI ((tn + 1 : Nat) : Int))])), (t1, .inl ((g.2.1 0), 40, .inl (q1 m))), (t2, .inl ((g.2.1 0), 40, .inl (q2 m))), (t3, .inl ((g.2.1 0), 40, .inl (q3 m))), (t4, .inl ((g.2.1 0), 40, .inl (q4 m)))] 30 [(3, .int (iI ((i : Nat) : Int))), (0, .ref t0), (1, .int (iI ((p : Nat) : Int))), (2, .int s)] [] := by
        intro fu
        induction fu with
        | zero => intro i m hpi hin hm hmu; exact absurd hmu (Nat.not_lt_zero _)
        | succ fu ih_30 =>
          intro i m hpi hin hm hmu
          refine z_iload_n hC d_Tr_insert_30 rfl 0 rfl ?_
          refine z_iload_n hC d_Tr_insert_31 rfl 2 rfl ?_
          refine z_icmp_le (tgt := 50) hC ((i : Nat) : Int) ((p : Nat) : Int) d_Tr_insert_32 rfl (iI_t (by omega)) (iI_t (by omega)) (fun c_3 => ?_) (fun c_3 => ?_)
          · refine z_aload_n hC d_Tr_insert_50 rfl 1 rfl ?_
            refine z_iload_n hC d_Tr_insert_51 rfl 2 rfl ?_
            refine z_iload_n hC d_Tr_insert_52 rfl 3 rfl ?_
            refine z_iconst hC d_Tr_insert_53 ?_
            refine z_iconst hC d_Tr_insert_54 ?_
            refine z_iconst hC d_Tr_insert_55 ?_
            refine z_callV (q0 := 0) (ci := 7) (w' := [(t0, .inr (7, [.ref t1, .ref t2, .ref t3, .ref t4, .int (iI (((tn + 1) : Nat) : Int))])), (t1, .inl ((g.2.1 0), 40, .inl (q1 (up m p (s, (iI (-1)), (iI (-1)), (iI (-1))))))), (t2, .inl ((g.2.1 0), 40, .inl (q2 (up m p (s, (iI (-1)), (iI (-1)), (iI (-1))))))), (t3, .inl ((g.2.1 0), 40, .inl (q3 (up m p (s, (iI (-1)), (iI (-1)), (iI (-1))))))), (t4, .inl ((g.2.1 0), 40, .inl (q4 (up m p (s, (iI (-1)), (iI (-1)), (iI (-1)))))))]) (st1 := []) hC (k_Tr_put l g t0 t1 t2 t3 t4 (tn + 1) m p s (iI (-1)) (iI (-1)) (iI (-1)) (by omega) (by omega)) mw_485 zv_Tr_put rfl rfl ⟨Nat.le_of_ble_eq_true rfl, Nat.le_of_ble_eq_true rfl⟩ [0, 1, 2, 3, 4] rfl rfl rfl rfl rfl rfl rfl rfl (Nat.le_of_ble_eq_true rfl) d_Tr_insert_56 rfl ⟨Nat.zero_le _, Nat.zero_le _⟩ rfl ?_
            refine z_iconstN hC 1 d_Tr_insert_59 rfl ?_
            exact Z.eq (by first | (exfalso; omega) | (rw [if_pos (by omega), if_pos (by omega), ins_end hm (by omega)]) | (rw [if_neg (by omega), if_neg (by omega)])) rfl rfl (zb_t (decide_eq_true (by omega))) (hR _ _ d_Tr_insert_60)
          · refine z_aload_n hC d_Tr_insert_35 rfl 1 rfl ?_
            refine z_iload_n hC d_Tr_insert_36 rfl 0 rfl ?_
            refine z_aload_n hC d_Tr_insert_37 rfl 1 rfl ?_
            refine z_iload_n hC d_Tr_insert_38 rfl 0 rfl ?_
            refine z_iconstN hC 1 d_Tr_insert_39 rfl ?_
            refine z_isubN hC d_Tr_insert_40 (by omega) ?_
            refine z_callV (q0 := 0) (ci := 7) (w' := [(t0, .inr (7, [.ref t1, .ref t2, .ref t3, .ref t4, .int (iI (((tn + 1) : Nat) : Int))])), (t1, .inl ((g.2.1 0), 40, .inl (q1 (up m i (m (i - 1)))))), (t2, .inl ((g.2.1 0), 40, .inl (q2 (up m i (m (i - 1)))))), (t3, .inl ((g.2.1 0), 40, .inl (q3 (up m i (m (i - 1)))))), (t4, .inl ((g.2.1 0), 40, .inl (q4 (up m i (m (i - 1))))))]) (st1 := []) hC (k_Tr_copyNode_s l g t0 t1 t2 t3 t4 (tn + 1) m i (i - 1) (by omega) (by omega) (by omega)) mw_511 zv_Tr_copyNode rfl rfl ⟨Nat.le_of_ble_eq_true rfl, Nat.le_of_ble_eq_true rfl⟩ [0, 1, 2, 3, 4] rfl rfl rfl rfl rfl rfl rfl rfl (Nat.le_of_ble_eq_true rfl) d_Tr_insert_41 rfl ⟨Nat.zero_le _, Nat.zero_le _⟩ rfl ?_
            refine z_idecN (lv' := [(3, .int (iI ((i - 1 : Nat) : Int))), (0, .ref t0), (1, .int (iI ((p : Nat) : Int))), (2, .int s)]) hC d_Tr_insert_44 0 rfl (by omega) (by decide) rfl ?_
            refine z_goto (tgt := 30) hC d_Tr_insert_47 rfl ?_
            exact Zloc [0, 1, 2, 3] rfl (Z.eq (w' := [(t0, .inr (7, [.ref t1, .ref t2, .ref t3, .ref t4, .int (iI ((tn + 1 : Nat) : Int))])), (t1, .inl ((g.2.1 0), 40, .inl (q1 (up m i (m (i - 1)))))), (t2, .inl ((g.2.1 0), 40, .inl (q2 (up m i (m (i - 1)))))), (t3, .inl ((g.2.1 0), 40, .inl (q3 (up m i (m (i - 1)))))), (t4, .inl ((g.2.1 0), 40, .inl (q4 (up m i (m (i - 1))))))]) rfl rfl rfl rfl (ih_30 (i - 1) (up m i (m (i - 1))) (by omega) (by omega) (ins_go (by omega) hm (by omega)) (by omega)))
      exact Zloc [0, 1, 2, 3] rfl (Z.eq (w' := [(t0, .inr (7, [.ref t1, .ref t2, .ref t3, .ref t4, .int (iI ((tn + 1 : Nat) : Int))])), (t1, .inl ((g.2.1 0), 40, .inl (q1 nd))), (t2, .inl ((g.2.1 0), 40, .inl (q2 nd))), (t3, .inl ((g.2.1 0), 40, .inl (q3 nd))), (t4, .inl ((g.2.1 0), 40, .inl (q4 nd)))]) rfl rfl rfl rfl (L_30 _ ((tn + 1) - 1) nd (by omega) (by omega) (fun k => by rw [if_neg (by omega)]) (Nat.lt_succ_self _)))
    · refine z_iconstN hC 0 d_Tr_insert_11 rfl ?_
      exact Z.eq (by first | (exfalso; omega) | (rw [if_pos (by omega), if_pos (by omega), ins_end hm (by omega)]) | (rw [if_neg (by omega), if_neg (by omega)])) rfl rfl (zb_f (decide_eq_false (by omega))) (hR _ _ d_Tr_insert_12)
set_option maxHeartbeats 4000000 in
set_option maxRecDepth 100000 in
theorem k_Tr_copyFrom (l : Launch) (g : ZG) (t0 t1 t2 t3 t4 tn : Nat) (nd : Nat → QD) (o0 o1 o2 o3 o4 on : Nat) (od : Nat → QD) (htn : tn ≤ 40) (hon : on ≤ 40)  : Ct l g y_Tr_copyFrom c_Tr_copyFrom 3 none { frames := 3, cells := 0, slots := 0, locals := 69 } [.ref t0, .ref o0] [(t0, .inr (7, [.ref t1, .ref t2, .ref t3, .ref t4, .int (iI ((tn : Nat) : Int))])), (t1, .inl ((g.2.1 0), 40, .inl (q1 nd))), (t2, .inl ((g.2.1 0), 40, .inl (q2 nd))), (t3, .inl ((g.2.1 0), 40, .inl (q3 nd))), (t4, .inl ((g.2.1 0), 40, .inl (q4 nd))), (o0, .inr (7, [.ref o1, .ref o2, .ref o3, .ref o4, .int (iI ((on : Nat) : Int))])), (o1, .inl ((g.2.1 0), 40, .inl (q1 od))), (o2, .inl ((g.2.1 0), 40, .inl (q2 od))), (o3, .inl ((g.2.1 0), 40, .inl (q3 od))), (o4, .inl ((g.2.1 0), 40, .inl (q4 od)))] none [(t0, .inr (7, [.ref t1, .ref t2, .ref t3, .ref t4, .int (iI ((on : Nat) : Int))])), (t1, .inl ((g.2.1 0), 40, .inl (q1 (cpN nd od on)))), (t2, .inl ((g.2.1 0), 40, .inl (q2 (cpN nd od on)))), (t3, .inl ((g.2.1 0), 40, .inl (q3 (cpN nd od on)))), (t4, .inl ((g.2.1 0), 40, .inl (q4 (cpN nd od on)))), (o0, .inr (7, [.ref o1, .ref o2, .ref o3, .ref o4, .int (iI ((on : Nat) : Int))])), (o1, .inl ((g.2.1 0), 40, .inl (q1 od))), (o2, .inl ((g.2.1 0), 40, .inl (q2 od))), (o3, .inl ((g.2.1 0), 40, .inl (q3 od))), (o4, .inl ((g.2.1 0), 40, .inl (q4 od)))] := by
  refine ct_v (lv := [(0, .ref t0), (1, .ref o0)]) (by decide) rfl (Nat.le_of_ble_eq_true rfl) rfl ?_
  intro x hC hR
  refine z_aload_n hC d_Tr_copyFrom_0 rfl 0 rfl ?_
  refine z_aload_n hC d_Tr_copyFrom_1 rfl 1 rfl ?_
  refine z_get hC hi_Tr 5 rfl rfl 4 (by decide) mw_135 (Or.inl rfl) rfl d_Tr_copyFrom_2 ?_
  refine z_put (v := .int (iI ((on : Nat) : Int))) (ty := .int) (w' := [(t0, .inr (7, [.ref t1, .ref t2, .ref t3, .ref t4, .int (iI ((on : Nat) : Int))])), (t1, .inl ((g.2.1 0), 40, .inl (q1 nd))), (t2, .inl ((g.2.1 0), 40, .inl (q2 nd))), (t3, .inl ((g.2.1 0), 40, .inl (q3 nd))), (t4, .inl ((g.2.1 0), 40, .inl (q4 nd))), (o0, .inr (7, [.ref o1, .ref o2, .ref o3, .ref o4, .int (iI ((on : Nat) : Int))])), (o1, .inl ((g.2.1 0), 40, .inl (q1 od))), (o2, .inl ((g.2.1 0), 40, .inl (q2 od))), (o3, .inl ((g.2.1 0), 40, .inl (q3 od))), (o4, .inl ((g.2.1 0), 40, .inl (q4 od)))]) hC hi_Tr ty_Tr ok_Tr nm_Tr 0 rfl rfl 4 (by decide) mw_135 rfl rfl rfl rfl rfl (Nat.le_of_ble_eq_true rfl) rfl d_Tr_copyFrom_5 ?_
  refine z_iconstN hC 0 d_Tr_copyFrom_8 rfl ?_
  refine z_istore_n (lv' := [(2, .int (iI ((0 : Nat) : Int))), (0, .ref t0), (1, .ref o0)]) hC d_Tr_copyFrom_9 rfl (by decide) rfl ?_
  have L_10 : ∀ (fu : Nat) (i : Nat) (m : Nat → QD), (i ≤ on) → (∀ k, m k = if k < i then od k else nd k) → on - i < fu → Z x (0, 0) [(t0, .inr (7, [.ref t1, .ref t2, .ref t3, .ref t4, .int (iI ((on : Nat) : Int))])), (t1, .inl ((g.2.1 0), 40, .inl (q1 m))), (t2, .inl ((g.2.1 0), 40, .inl (q2 m))), (t3, .inl ((g.2.1 0), 40, .inl (q3 m))), (t4, .inl ((g.2.1 0), 40, .inl (q4 m))), (o0, .inr (7, [.ref o1, .ref o2, .ref o3, .ref o4, .int (iI ((on : Nat) : Int))])), (o1, .inl ((g.2.1 0), 40, .inl (q1 od))), (o2, .inl ((g.2.1 0), 40, .inl (q2 od))), (o3, .inl ((g.2.1 0), 40, .inl (q3 od))), (o4, .inl ((g.2.1 0), 40, .inl (q4 od)))] 10 [(2, .int (iI ((i : Nat) : Int))), (0, .ref t0), (1, .ref o0)] [] := by
    intro fu
    induction fu with
    | zero => intro i m hi hm hmu; exact absurd hmu (Nat.not_lt_zero _)
    | succ fu ih_10 =>
      intro i m hi hm hmu
      refine z_iload_n hC d_Tr_copyFrom_10 rfl 0 rfl ?_
      refine z_aload_n hC d_Tr_copyFrom_11 rfl 1 rfl ?_
      refine z_get hC hi_Tr 0 rfl rfl 4 (by decide) mw_135 (Or.inl rfl) rfl d_Tr_copyFrom_12 ?_
      refine z_icmp_ge (tgt := 31) hC ((i : Nat) : Int) ((on : Nat) : Int) d_Tr_copyFrom_15 rfl (iI_t (by omega)) (iI_t (by omega)) (fun c_1 => ?_) (fun c_1 => ?_)
      · exact Z.eq (by rw [show m = cpN nd od on from funext (fun k => by rw [hm, cpN, show i = on by omega])]) rfl rfl rfl (hR _ _ d_Tr_copyFrom_31)
      · refine z_aload_n hC d_Tr_copyFrom_18 rfl 1 rfl ?_
        refine z_iload_n hC d_Tr_copyFrom_19 rfl 0 rfl ?_
        refine z_aload_n hC d_Tr_copyFrom_20 rfl 2 rfl ?_
        refine z_iload_n hC d_Tr_copyFrom_21 rfl 0 rfl ?_
        refine z_callV (q0 := 0) (ci := 7) (w' := [(t0, .inr (7, [.ref t1, .ref t2, .ref t3, .ref t4, .int (iI ((on : Nat) : Int))])), (t1, .inl ((g.2.1 0), 40, .inl (q1 (up m i (od i))))), (t2, .inl ((g.2.1 0), 40, .inl (q2 (up m i (od i))))), (t3, .inl ((g.2.1 0), 40, .inl (q3 (up m i (od i))))), (t4, .inl ((g.2.1 0), 40, .inl (q4 (up m i (od i))))), (o0, .inr (7, [.ref o1, .ref o2, .ref o3, .ref o4, .int (iI ((on : Nat) : Int))])), (o1, .inl ((g.2.1 0), 40, .inl (q1 od))), (o2, .inl ((g.2.1 0), 40, .inl (q2 od))), (o3, .inl ((g.2.1 0), 40, .inl (q3 od))), (o4, .inl ((g.2.1 0), 40, .inl (q4 od)))]) (st1 := []) hC (k_Tr_copyNode l g t0 t1 t2 t3 t4 on m o0 o1 o2 o3 o4 on od i i hon hon (by omega) (by omega)) mw_511 zv_Tr_copyNode rfl rfl ⟨Nat.le_of_ble_eq_true rfl, Nat.le_of_ble_eq_true rfl⟩ [0, 1, 2, 3, 4, 5, 6, 7, 8, 9] rfl rfl rfl rfl rfl rfl rfl rfl (Nat.le_of_ble_eq_true rfl) d_Tr_copyFrom_22 rfl ⟨Nat.zero_le _, Nat.zero_le _⟩ rfl ?_
        refine z_iincN (lv' := [(2, .int (iI ((i + 1 : Nat) : Int))), (0, .ref t0), (1, .ref o0)]) hC 1 d_Tr_copyFrom_25 rfl 0 rfl (by decide) rfl ?_
        refine z_goto (tgt := 10) hC d_Tr_copyFrom_28 rfl ?_
        exact Zloc [0, 1, 2] rfl (Z.eq (w' := [(t0, .inr (7, [.ref t1, .ref t2, .ref t3, .ref t4, .int (iI ((on : Nat) : Int))])), (t1, .inl ((g.2.1 0), 40, .inl (q1 (up m i (od i))))), (t2, .inl ((g.2.1 0), 40, .inl (q2 (up m i (od i))))), (t3, .inl ((g.2.1 0), 40, .inl (q3 (up m i (od i))))), (t4, .inl ((g.2.1 0), 40, .inl (q4 (up m i (od i))))), (o0, .inr (7, [.ref o1, .ref o2, .ref o3, .ref o4, .int (iI ((on : Nat) : Int))])), (o1, .inl ((g.2.1 0), 40, .inl (q1 od))), (o2, .inl ((g.2.1 0), 40, .inl (q2 od))), (o3, .inl ((g.2.1 0), 40, .inl (q3 od))), (o4, .inl ((g.2.1 0), 40, .inl (q4 od)))]) rfl rfl rfl rfl (ih_10 (i + 1) (up m i (od i)) (by omega) (cp_go hm) (by omega)))
  exact Zloc [0, 1, 2] rfl (Z.eq (w' := [(t0, .inr (7, [.ref t1, .ref t2, .ref t3, .ref t4, .int (iI ((on : Nat) : Int))])), (t1, .inl ((g.2.1 0), 40, .inl (q1 nd))), (t2, .inl ((g.2.1 0), 40, .inl (q2 nd))), (t3, .inl ((g.2.1 0), 40, .inl (q3 nd))), (t4, .inl ((g.2.1 0), 40, .inl (q4 nd))), (o0, .inr (7, [.ref o1, .ref o2, .ref o3, .ref o4, .int (iI ((on : Nat) : Int))])), (o1, .inl ((g.2.1 0), 40, .inl (q1 od))), (o2, .inl ((g.2.1 0), 40, .inl (q2 od))), (o3, .inl ((g.2.1 0), 40, .inl (q3 od))), (o4, .inl ((g.2.1 0), 40, .inl (q4 od)))]) rfl rfl rfl rfl (L_10 _ 0 nd (by omega) (fun k => by rw [if_neg (by omega)]) (Nat.lt_succ_self _)))
set_option maxHeartbeats 4000000 in
set_option maxRecDepth 100000 in
theorem k_Tr_isNodeLike (l : Launch) (g : ZG) (t0 t1 t2 t3 t4 tn : Nat) (nd : Nat → QD) (o0 o1 o2 o3 o4 on : Nat) (od : Nat → QD) (k : Nat) (htn : tn ≤ 40) (hon : on ≤ 40) (hk : k < tn) (hj : k < on)  : Ct l g y_Tr_isNodeLike c_Tr_isNodeLike 3 (some .boolean) { frames := 2, cells := 0, slots := 0, locals := 42 } [.ref t0, .ref o0, .int (iI ((k : Nat) : Int))] [(t0, .inr (7, [.ref t1, .ref t2, .ref t3, .ref t4, .int (iI ((tn : Nat) : Int))])), (t1, .inl ((g.2.1 0), 40, .inl (q1 nd))), (t2, .inl ((g.2.1 0), 40, .inl (q2 nd))), (t3, .inl ((g.2.1 0), 40, .inl (q3 nd))), (t4, .inl ((g.2.1 0), 40, .inl (q4 nd))), (o0, .inr (7, [.ref o1, .ref o2, .ref o3, .ref o4, .int (iI ((on : Nat) : Int))])), (o1, .inl ((g.2.1 0), 40, .inl (q1 od))), (o2, .inl ((g.2.1 0), 40, .inl (q2 od))), (o3, .inl ((g.2.1 0), 40, .inl (q3 od))), (o4, .inl ((g.2.1 0), 40, .inl (q4 od)))] (some (.int (iI (bI (decide (nd k = od k)))))) [(t0, .inr (7, [.ref t1, .ref t2, .ref t3, .ref t4, .int (iI ((tn : Nat) : Int))])), (t1, .inl ((g.2.1 0), 40, .inl (q1 nd))), (t2, .inl ((g.2.1 0), 40, .inl (q2 nd))), (t3, .inl ((g.2.1 0), 40, .inl (q3 nd))), (t4, .inl ((g.2.1 0), 40, .inl (q4 nd))), (o0, .inr (7, [.ref o1, .ref o2, .ref o3, .ref o4, .int (iI ((on : Nat) : Int))])), (o1, .inl ((g.2.1 0), 40, .inl (q1 od))), (o2, .inl ((g.2.1 0), 40, .inl (q2 od))), (o3, .inl ((g.2.1 0), 40, .inl (q3 od))), (o4, .inl ((g.2.1 0), 40, .inl (q4 od)))] := by
  refine ct_z (lv := [(0, .ref t0), (1, .ref o0), (2, .int (iI ((k : Nat) : Int)))]) (by decide) rfl (Nat.le_of_ble_eq_true rfl) rfl ?_
  intro x hC hR
  refine z_aload_n hC d_Tr_isNodeLike_0 rfl 0 rfl ?_
  refine z_iload_n hC d_Tr_isNodeLike_1 rfl 2 rfl ?_
  refine z_callV (q0 := 0) (ci := 7) (w' := [(t0, .inr (7, [.ref t1, .ref t2, .ref t3, .ref t4, .int (iI ((tn : Nat) : Int))])), (t1, .inl ((g.2.1 0), 40, .inl (q1 nd))), (t2, .inl ((g.2.1 0), 40, .inl (q2 nd))), (t3, .inl ((g.2.1 0), 40, .inl (q3 nd))), (t4, .inl ((g.2.1 0), 40, .inl (q4 nd))), (o0, .inr (7, [.ref o1, .ref o2, .ref o3, .ref o4, .int (iI ((on : Nat) : Int))])), (o1, .inl ((g.2.1 0), 40, .inl (q1 od))), (o2, .inl ((g.2.1 0), 40, .inl (q2 od))), (o3, .inl ((g.2.1 0), 40, .inl (q3 od))), (o4, .inl ((g.2.1 0), 40, .inl (q4 od)))]) (st1 := [.int ((nd k).1)]) hC (k_Tr_sortAt_N l g t0 t1 t2 t3 t4 tn nd k htn hk) mw_515 zv_Tr_sortAt rfl rfl ⟨Nat.le_of_ble_eq_true rfl, Nat.le_of_ble_eq_true rfl⟩ [0, 1, 2, 3, 4] rfl rfl rfl rfl rfl rfl rfl rfl (Nat.le_of_ble_eq_true rfl) d_Tr_isNodeLike_2 rfl ⟨Nat.zero_le _, Nat.zero_le _⟩ rfl ?_
  refine z_aload_n hC d_Tr_isNodeLike_5 rfl 1 rfl ?_
  refine z_iload_n hC d_Tr_isNodeLike_6 rfl 2 rfl ?_
  refine z_callV (q0 := 5) (ci := 7) (w' := [(t0, .inr (7, [.ref t1, .ref t2, .ref t3, .ref t4, .int (iI ((tn : Nat) : Int))])), (t1, .inl ((g.2.1 0), 40, .inl (q1 nd))), (t2, .inl ((g.2.1 0), 40, .inl (q2 nd))), (t3, .inl ((g.2.1 0), 40, .inl (q3 nd))), (t4, .inl ((g.2.1 0), 40, .inl (q4 nd))), (o0, .inr (7, [.ref o1, .ref o2, .ref o3, .ref o4, .int (iI ((on : Nat) : Int))])), (o1, .inl ((g.2.1 0), 40, .inl (q1 od))), (o2, .inl ((g.2.1 0), 40, .inl (q2 od))), (o3, .inl ((g.2.1 0), 40, .inl (q3 od))), (o4, .inl ((g.2.1 0), 40, .inl (q4 od)))]) (st1 := [.int ((od k).1), .int ((nd k).1)]) hC (k_Tr_sortAt_N l g o0 o1 o2 o3 o4 on od k hon hj) mw_515 zv_Tr_sortAt rfl rfl ⟨Nat.le_of_ble_eq_true rfl, Nat.le_of_ble_eq_true rfl⟩ [5, 6, 7, 8, 9] rfl rfl rfl rfl rfl rfl rfl rfl (Nat.le_of_ble_eq_true rfl) d_Tr_isNodeLike_7 rfl ⟨Nat.zero_le _, Nat.zero_le _⟩ rfl ?_
  refine z_icmp_neR (tgt := 56) hC d_Tr_isNodeLike_10 rfl (fun c_1 => ?_) (fun c_1 => ?_)
  · refine z_iconstN hC 0 d_Tr_isNodeLike_56 rfl ?_
    exact Z.eq rfl rfl rfl (zb_f (decide_eq_false (by first | (exact Prod.ext (by assumption) (Prod.ext (by assumption) (Prod.ext (by assumption) (by assumption)))) | (intro e; simp_all)))) (hR _ _ d_Tr_isNodeLike_57)
  · refine z_aload_n hC d_Tr_isNodeLike_13 rfl 0 rfl ?_
    refine z_iload_n hC d_Tr_isNodeLike_14 rfl 2 rfl ?_
    refine z_callV (q0 := 0) (ci := 7) (w' := [(t0, .inr (7, [.ref t1, .ref t2, .ref t3, .ref t4, .int (iI ((tn : Nat) : Int))])), (t1, .inl ((g.2.1 0), 40, .inl (q1 nd))), (t2, .inl ((g.2.1 0), 40, .inl (q2 nd))), (t3, .inl ((g.2.1 0), 40, .inl (q3 nd))), (t4, .inl ((g.2.1 0), 40, .inl (q4 nd))), (o0, .inr (7, [.ref o1, .ref o2, .ref o3, .ref o4, .int (iI ((on : Nat) : Int))])), (o1, .inl ((g.2.1 0), 40, .inl (q1 od))), (o2, .inl ((g.2.1 0), 40, .inl (q2 od))), (o3, .inl ((g.2.1 0), 40, .inl (q3 od))), (o4, .inl ((g.2.1 0), 40, .inl (q4 od)))]) (st1 := [.int ((nd k).2.1)]) hC (k_Tr_indexAt_N l g t0 t1 t2 t3 t4 tn nd k htn hk) mw_519 zv_Tr_indexAt rfl rfl ⟨Nat.le_of_ble_eq_true rfl, Nat.le_of_ble_eq_true rfl⟩ [0, 1, 2, 3, 4] rfl rfl rfl rfl rfl rfl rfl rfl (Nat.le_of_ble_eq_true rfl) d_Tr_isNodeLike_15 rfl ⟨Nat.zero_le _, Nat.zero_le _⟩ rfl ?_
    refine z_aload_n hC d_Tr_isNodeLike_18 rfl 1 rfl ?_
    refine z_iload_n hC d_Tr_isNodeLike_19 rfl 2 rfl ?_
    refine z_callV (q0 := 5) (ci := 7) (w' := [(t0, .inr (7, [.ref t1, .ref t2, .ref t3, .ref t4, .int (iI ((tn : Nat) : Int))])), (t1, .inl ((g.2.1 0), 40, .inl (q1 nd))), (t2, .inl ((g.2.1 0), 40, .inl (q2 nd))), (t3, .inl ((g.2.1 0), 40, .inl (q3 nd))), (t4, .inl ((g.2.1 0), 40, .inl (q4 nd))), (o0, .inr (7, [.ref o1, .ref o2, .ref o3, .ref o4, .int (iI ((on : Nat) : Int))])), (o1, .inl ((g.2.1 0), 40, .inl (q1 od))), (o2, .inl ((g.2.1 0), 40, .inl (q2 od))), (o3, .inl ((g.2.1 0), 40, .inl (q3 od))), (o4, .inl ((g.2.1 0), 40, .inl (q4 od)))]) (st1 := [.int ((od k).2.1), .int ((nd k).2.1)]) hC (k_Tr_indexAt_N l g o0 o1 o2 o3 o4 on od k hon hj) mw_519 zv_Tr_indexAt rfl rfl ⟨Nat.le_of_ble_eq_true rfl, Nat.le_of_ble_eq_true rfl⟩ [5, 6, 7, 8, 9] rfl rfl rfl rfl rfl rfl rfl rfl (Nat.le_of_ble_eq_true rfl) d_Tr_isNodeLike_20 rfl ⟨Nat.zero_le _, Nat.zero_le _⟩ rfl ?_
    refine z_icmp_neR (tgt := 56) hC d_Tr_isNodeLike_23 rfl (fun c_2 => ?_) (fun c_2 => ?_)
    · refine z_iconstN hC 0 d_Tr_isNodeLike_56 rfl ?_
      exact Z.eq rfl rfl rfl (zb_f (decide_eq_false (by first | (exact Prod.ext (by assumption) (Prod.ext (by assumption) (Prod.ext (by assumption) (by assumption)))) | (intro e; simp_all)))) (hR _ _ d_Tr_isNodeLike_57)
    · refine z_aload_n hC d_Tr_isNodeLike_26 rfl 0 rfl ?_
      refine z_iload_n hC d_Tr_isNodeLike_27 rfl 2 rfl ?_
      refine z_callV (q0 := 0) (ci := 7) (w' := [(t0, .inr (7, [.ref t1, .ref t2, .ref t3, .ref t4, .int (iI ((tn : Nat) : Int))])), (t1, .inl ((g.2.1 0), 40, .inl (q1 nd))), (t2, .inl ((g.2.1 0), 40, .inl (q2 nd))), (t3, .inl ((g.2.1 0), 40, .inl (q3 nd))), (t4, .inl ((g.2.1 0), 40, .inl (q4 nd))), (o0, .inr (7, [.ref o1, .ref o2, .ref o3, .ref o4, .int (iI ((on : Nat) : Int))])), (o1, .inl ((g.2.1 0), 40, .inl (q1 od))), (o2, .inl ((g.2.1 0), 40, .inl (q2 od))), (o3, .inl ((g.2.1 0), 40, .inl (q3 od))), (o4, .inl ((g.2.1 0), 40, .inl (q4 od)))]) (st1 := [.int ((nd k).2.2.1)]) hC (k_Tr_leastAt_N l g t0 t1 t2 t3 t4 tn nd k htn hk) mw_523 zv_Tr_leastAt rfl rfl ⟨Nat.le_of_ble_eq_true rfl, Nat.le_of_ble_eq_true rfl⟩ [0, 1, 2, 3, 4] rfl rfl rfl rfl rfl rfl rfl rfl (Nat.le_of_ble_eq_true rfl) d_Tr_isNodeLike_28 rfl ⟨Nat.zero_le _, Nat.zero_le _⟩ rfl ?_
      refine z_aload_n hC d_Tr_isNodeLike_31 rfl 1 rfl ?_
      refine z_iload_n hC d_Tr_isNodeLike_32 rfl 2 rfl ?_
      refine z_callV (q0 := 5) (ci := 7) (w' := [(t0, .inr (7, [.ref t1, .ref t2, .ref t3, .ref t4, .int (iI ((tn : Nat) : Int))])), (t1, .inl ((g.2.1 0), 40, .inl (q1 nd))), (t2, .inl ((g.2.1 0), 40, .inl (q2 nd))), (t3, .inl ((g.2.1 0), 40, .inl (q3 nd))), (t4, .inl ((g.2.1 0), 40, .inl (q4 nd))), (o0, .inr (7, [.ref o1, .ref o2, .ref o3, .ref o4, .int (iI ((on : Nat) : Int))])), (o1, .inl ((g.2.1 0), 40, .inl (q1 od))), (o2, .inl ((g.2.1 0), 40, .inl (q2 od))), (o3, .inl ((g.2.1 0), 40, .inl (q3 od))), (o4, .inl ((g.2.1 0), 40, .inl (q4 od)))]) (st1 := [.int ((od k).2.2.1), .int ((nd k).2.2.1)]) hC (k_Tr_leastAt_N l g o0 o1 o2 o3 o4 on od k hon hj) mw_523 zv_Tr_leastAt rfl rfl ⟨Nat.le_of_ble_eq_true rfl, Nat.le_of_ble_eq_true rfl⟩ [5, 6, 7, 8, 9] rfl rfl rfl rfl rfl rfl rfl rfl (Nat.le_of_ble_eq_true rfl) d_Tr_isNodeLike_33 rfl ⟨Nat.zero_le _, Nat.zero_le _⟩ rfl ?_
      refine z_icmp_neR (tgt := 56) hC d_Tr_isNodeLike_36 rfl (fun c_3 => ?_) (fun c_3 => ?_)
      · refine z_iconstN hC 0 d_Tr_isNodeLike_56 rfl ?_
        exact Z.eq rfl rfl rfl (zb_f (decide_eq_false (by first | (exact Prod.ext (by assumption) (Prod.ext (by assumption) (Prod.ext (by assumption) (by assumption)))) | (intro e; simp_all)))) (hR _ _ d_Tr_isNodeLike_57)
      · refine z_aload_n hC d_Tr_isNodeLike_39 rfl 0 rfl ?_
        refine z_iload_n hC d_Tr_isNodeLike_40 rfl 2 rfl ?_
        refine z_callV (q0 := 0) (ci := 7) (w' := [(t0, .inr (7, [.ref t1, .ref t2, .ref t3, .ref t4, .int (iI ((tn : Nat) : Int))])), (t1, .inl ((g.2.1 0), 40, .inl (q1 nd))), (t2, .inl ((g.2.1 0), 40, .inl (q2 nd))), (t3, .inl ((g.2.1 0), 40, .inl (q3 nd))), (t4, .inl ((g.2.1 0), 40, .inl (q4 nd))), (o0, .inr (7, [.ref o1, .ref o2, .ref o3, .ref o4, .int (iI ((on : Nat) : Int))])), (o1, .inl ((g.2.1 0), 40, .inl (q1 od))), (o2, .inl ((g.2.1 0), 40, .inl (q2 od))), (o3, .inl ((g.2.1 0), 40, .inl (q3 od))), (o4, .inl ((g.2.1 0), 40, .inl (q4 od)))]) (st1 := [.int ((nd k).2.2.2)]) hC (k_Tr_greatestAt_N l g t0 t1 t2 t3 t4 tn nd k htn hk) mw_527 zv_Tr_greatestAt rfl rfl ⟨Nat.le_of_ble_eq_true rfl, Nat.le_of_ble_eq_true rfl⟩ [0, 1, 2, 3, 4] rfl rfl rfl rfl rfl rfl rfl rfl (Nat.le_of_ble_eq_true rfl) d_Tr_isNodeLike_41 rfl ⟨Nat.zero_le _, Nat.zero_le _⟩ rfl ?_
        refine z_aload_n hC d_Tr_isNodeLike_44 rfl 1 rfl ?_
        refine z_iload_n hC d_Tr_isNodeLike_45 rfl 2 rfl ?_
        refine z_callV (q0 := 5) (ci := 7) (w' := [(t0, .inr (7, [.ref t1, .ref t2, .ref t3, .ref t4, .int (iI ((tn : Nat) : Int))])), (t1, .inl ((g.2.1 0), 40, .inl (q1 nd))), (t2, .inl ((g.2.1 0), 40, .inl (q2 nd))), (t3, .inl ((g.2.1 0), 40, .inl (q3 nd))), (t4, .inl ((g.2.1 0), 40, .inl (q4 nd))), (o0, .inr (7, [.ref o1, .ref o2, .ref o3, .ref o4, .int (iI ((on : Nat) : Int))])), (o1, .inl ((g.2.1 0), 40, .inl (q1 od))), (o2, .inl ((g.2.1 0), 40, .inl (q2 od))), (o3, .inl ((g.2.1 0), 40, .inl (q3 od))), (o4, .inl ((g.2.1 0), 40, .inl (q4 od)))]) (st1 := [.int ((od k).2.2.2), .int ((nd k).2.2.2)]) hC (k_Tr_greatestAt_N l g o0 o1 o2 o3 o4 on od k hon hj) mw_527 zv_Tr_greatestAt rfl rfl ⟨Nat.le_of_ble_eq_true rfl, Nat.le_of_ble_eq_true rfl⟩ [5, 6, 7, 8, 9] rfl rfl rfl rfl rfl rfl rfl rfl (Nat.le_of_ble_eq_true rfl) d_Tr_isNodeLike_46 rfl ⟨Nat.zero_le _, Nat.zero_le _⟩ rfl ?_
        refine z_icmp_neR (tgt := 56) hC d_Tr_isNodeLike_49 rfl (fun c_4 => ?_) (fun c_4 => ?_)
        · refine z_iconstN hC 0 d_Tr_isNodeLike_56 rfl ?_
          exact Z.eq rfl rfl rfl (zb_f (decide_eq_false (by first | (exact Prod.ext (by assumption) (Prod.ext (by assumption) (Prod.ext (by assumption) (by assumption)))) | (intro e; simp_all)))) (hR _ _ d_Tr_isNodeLike_57)
        · refine z_iconstN hC 1 d_Tr_isNodeLike_52 rfl ?_
          refine z_goto (tgt := 57) hC d_Tr_isNodeLike_53 rfl ?_
          exact Z.eq rfl rfl rfl (zb_t (decide_eq_true (by first | (exact Prod.ext (by assumption) (Prod.ext (by assumption) (Prod.ext (by assumption) (by assumption)))) | (intro e; simp_all)))) (hR _ _ d_Tr_isNodeLike_57)
set_option maxHeartbeats 4000000 in
set_option maxRecDepth 100000 in
theorem k_Tr_isLike (l : Launch) (g : ZG) (t0 t1 t2 t3 t4 tn : Nat) (nd : Nat → QD) (o0 o1 o2 o3 o4 on : Nat) (od : Nat → QD) (htn : tn ≤ 40) (hon : on ≤ 40)  : Ct l g y_Tr_isLike c_Tr_isLike 3 (some .boolean) { frames := 3, cells := 0, slots := 0, locals := 64 } [.ref t0, .ref o0] [(t0, .inr (7, [.ref t1, .ref t2, .ref t3, .ref t4, .int (iI ((tn : Nat) : Int))])), (t1, .inl ((g.2.1 0), 40, .inl (q1 nd))), (t2, .inl ((g.2.1 0), 40, .inl (q2 nd))), (t3, .inl ((g.2.1 0), 40, .inl (q3 nd))), (t4, .inl ((g.2.1 0), 40, .inl (q4 nd))), (o0, .inr (7, [.ref o1, .ref o2, .ref o3, .ref o4, .int (iI ((on : Nat) : Int))])), (o1, .inl ((g.2.1 0), 40, .inl (q1 od))), (o2, .inl ((g.2.1 0), 40, .inl (q2 od))), (o3, .inl ((g.2.1 0), 40, .inl (q3 od))), (o4, .inl ((g.2.1 0), 40, .inl (q4 od)))] (some (.int (iI (bI (decide (tn = on) && allB (fun k => decide (nd k = od k)) tn))))) [(t0, .inr (7, [.ref t1, .ref t2, .ref t3, .ref t4, .int (iI ((tn : Nat) : Int))])), (t1, .inl ((g.2.1 0), 40, .inl (q1 nd))), (t2, .inl ((g.2.1 0), 40, .inl (q2 nd))), (t3, .inl ((g.2.1 0), 40, .inl (q3 nd))), (t4, .inl ((g.2.1 0), 40, .inl (q4 nd))), (o0, .inr (7, [.ref o1, .ref o2, .ref o3, .ref o4, .int (iI ((on : Nat) : Int))])), (o1, .inl ((g.2.1 0), 40, .inl (q1 od))), (o2, .inl ((g.2.1 0), 40, .inl (q2 od))), (o3, .inl ((g.2.1 0), 40, .inl (q3 od))), (o4, .inl ((g.2.1 0), 40, .inl (q4 od)))] := by
  refine ct_z (lv := [(0, .ref t0), (1, .ref o0)]) (by decide) rfl (Nat.le_of_ble_eq_true rfl) rfl ?_
  intro x hC hR
  refine z_aload_n hC d_Tr_isLike_0 rfl 0 rfl ?_
  refine z_get hC hi_Tr 0 rfl rfl 4 (by decide) mw_135 (Or.inl rfl) rfl d_Tr_isLike_1 ?_
  refine z_aload_n hC d_Tr_isLike_4 rfl 1 rfl ?_
  refine z_get hC hi_Tr 5 rfl rfl 4 (by decide) mw_135 (Or.inl rfl) rfl d_Tr_isLike_5 ?_
  refine z_icmp_eq (tgt := 13) hC ((tn : Nat) : Int) ((on : Nat) : Int) d_Tr_isLike_8 rfl (iI_t (by omega)) (iI_t (by omega)) (fun c_1 => ?_) (fun c_1 => ?_)
  · refine z_iconstN hC 0 d_Tr_isLike_13 rfl ?_
    refine z_istore_n (lv' := [(2, .int (iI ((0 : Nat) : Int))), (0, .ref t0), (1, .ref o0)]) hC d_Tr_isLike_14 rfl (by decide) rfl ?_
    have L_15 : ∀ (fu : Nat) (i : Nat), (i ≤ tn) → (∀ k, k < i → nd k = od k) → tn - i < fu → Z x (0, 0) [(t0, .inr (7, [.ref t1, .ref t2, .ref t3, .ref t4, .int (iI ((tn : Nat) : Int))])), (t1, .inl ((g.2.1 0), 40, .inl (q1 nd))), (t2, .inl ((g.2.1 0), 40, .inl (q2 nd))), (t3, .inl ((g.2.1 0), 40, .inl (q3 nd))), (t4, .inl ((g.2.1 0), 40, .inl (q4 nd))), (o0, .inr (7, [.ref o1, .ref o2, .ref o3, .ref o4, .int (iI ((on : Nat) : Int))])), (o1, .inl ((g.2.1 0), 40, .inl (q1 od))), (o2, .inl ((g.2.1 0), 40, .inl (q2 od))), (o3, .inl ((g.2.1 0), 40, .inl (q3 od))), (o4, .inl ((g.2.1 0), 40, .inl (q4 od)))] 15 [(2, .int (iI ((i : Nat) : Int))), (0, .ref t0), (1, .ref o0)] [] := by
      intro fu
      induction fu with
      | zero => intro i hi hall hmu; exact absurd hmu (Nat.not_lt_zero _)
      | succ fu ih_15 =>
        intro i hi hall hmu
        refine z_iload_n hC d_Tr_isLike_15 rfl 0 rfl ?_
        refine z_aload_n hC d_Tr_isLike_16 rfl 1 rfl ?_
        refine z_get hC hi_Tr 0 rfl rfl 4 (by decide) mw_135 (Or.inl rfl) rfl d_Tr_isLike_17 ?_
        refine z_icmp_ge (tgt := 40) hC ((i : Nat) : Int) ((tn : Nat) : Int) d_Tr_isLike_20 rfl (iI_t (by omega)) (iI_t (by omega)) (fun c_2 => ?_) (fun c_2 => ?_)
        · refine z_iconstN hC 1 d_Tr_isLike_40 rfl ?_
          exact Z.eq rfl rfl rfl (zb_t (by first | (rw [Bool.and_eq_false_iff]; exact Or.inl (decide_eq_false (by omega))) | (rw [Bool.and_eq_false_iff]; exact Or.inr (allB_no (k := i) (by omega) (decide_eq_false (by assumption)))) | (rw [Bool.and_eq_true]; exact ⟨decide_eq_true (by omega), allB_iff.mpr (fun k hk => decide_eq_true (hall k (by omega)))⟩))) (hR _ _ d_Tr_isLike_41)
        · refine z_aload_n hC d_Tr_isLike_23 rfl 1 rfl ?_
          refine z_aload_n hC d_Tr_isLike_24 rfl 2 rfl ?_
          refine z_iload_n hC d_Tr_isLike_25 rfl 0 rfl ?_
          refine z_callV (q0 := 0) (ci := 7) (w' := [(t0, .inr (7, [.ref t1, .ref t2, .ref t3, .ref t4, .int (iI ((tn : Nat) : Int))])), (t1, .inl ((g.2.1 0), 40, .inl (q1 nd))), (t2, .inl ((g.2.1 0), 40, .inl (q2 nd))), (t3, .inl ((g.2.1 0), 40, .inl (q3 nd))), (t4, .inl ((g.2.1 0), 40, .inl (q4 nd))), (o0, .inr (7, [.ref o1, .ref o2, .ref o3, .ref o4, .int (iI ((on : Nat) : Int))])), (o1, .inl ((g.2.1 0), 40, .inl (q1 od))), (o2, .inl ((g.2.1 0), 40, .inl (q2 od))), (o3, .inl ((g.2.1 0), 40, .inl (q3 od))), (o4, .inl ((g.2.1 0), 40, .inl (q4 od)))]) (st1 := [.int (iI (bI (decide (nd i = od i))))]) hC (k_Tr_isNodeLike l g t0 t1 t2 t3 t4 tn nd o0 o1 o2 o3 o4 on od i htn hon (by omega) (by omega)) mw_718 zv_Tr_isNodeLike rfl rfl ⟨Nat.le_of_ble_eq_true rfl, Nat.le_of_ble_eq_true rfl⟩ [0, 1, 2, 3, 4, 5, 6, 7, 8, 9] rfl rfl rfl rfl rfl rfl rfl rfl (Nat.le_of_ble_eq_true rfl) d_Tr_isLike_26 rfl ⟨Nat.zero_le _, Nat.zero_le _⟩ rfl ?_
          refine z_ifneD (tgt := 34) hC d_Tr_isLike_29 rfl (fun c_3 => ?_) (fun c_3 => ?_)
          · refine z_iincN (lv' := [(2, .int (iI ((i + 1 : Nat) : Int))), (0, .ref t0), (1, .ref o0)]) hC 1 d_Tr_isLike_34 rfl 0 rfl (by decide) rfl ?_
            refine z_goto (tgt := 15) hC d_Tr_isLike_37 rfl ?_
            exact Zloc [0, 1, 2] rfl (Z.eq (w' := [(t0, .inr (7, [.ref t1, .ref t2, .ref t3, .ref t4, .int (iI ((tn : Nat) : Int))])), (t1, .inl ((g.2.1 0), 40, .inl (q1 nd))), (t2, .inl ((g.2.1 0), 40, .inl (q2 nd))), (t3, .inl ((g.2.1 0), 40, .inl (q3 nd))), (t4, .inl ((g.2.1 0), 40, .inl (q4 nd))), (o0, .inr (7, [.ref o1, .ref o2, .ref o3, .ref o4, .int (iI ((on : Nat) : Int))])), (o1, .inl ((g.2.1 0), 40, .inl (q1 od))), (o2, .inl ((g.2.1 0), 40, .inl (q2 od))), (o3, .inl ((g.2.1 0), 40, .inl (q3 od))), (o4, .inl ((g.2.1 0), 40, .inl (q4 od)))]) rfl rfl rfl rfl (ih_15 (i + 1) (by omega) (lt_s hall (by assumption)) (by omega)))
          · refine z_iconstN hC 0 d_Tr_isLike_32 rfl ?_
            exact Z.eq rfl rfl rfl (zb_f (by first | (rw [Bool.and_eq_false_iff]; exact Or.inl (decide_eq_false (by omega))) | (rw [Bool.and_eq_false_iff]; exact Or.inr (allB_no (k := i) (by omega) (decide_eq_false (by assumption)))) | (rw [Bool.and_eq_true]; exact ⟨decide_eq_true (by omega), allB_iff.mpr (fun k hk => decide_eq_true (hall k (by omega)))⟩))) (hR _ _ d_Tr_isLike_33)
    exact Zloc [0, 1, 2] rfl (Z.eq (w' := [(t0, .inr (7, [.ref t1, .ref t2, .ref t3, .ref t4, .int (iI ((tn : Nat) : Int))])), (t1, .inl ((g.2.1 0), 40, .inl (q1 nd))), (t2, .inl ((g.2.1 0), 40, .inl (q2 nd))), (t3, .inl ((g.2.1 0), 40, .inl (q3 nd))), (t4, .inl ((g.2.1 0), 40, .inl (q4 nd))), (o0, .inr (7, [.ref o1, .ref o2, .ref o3, .ref o4, .int (iI ((on : Nat) : Int))])), (o1, .inl ((g.2.1 0), 40, .inl (q1 od))), (o2, .inl ((g.2.1 0), 40, .inl (q2 od))), (o3, .inl ((g.2.1 0), 40, .inl (q3 od))), (o4, .inl ((g.2.1 0), 40, .inl (q4 od)))]) rfl rfl rfl rfl (L_15 _ 0 (by omega) (fun k h => absurd h (Nat.not_lt_zero k)) (Nat.lt_succ_self _)))
  · refine z_iconstN hC 0 d_Tr_isLike_11 rfl ?_
    exact Z.eq rfl rfl rfl (zb_f (by first | (rw [Bool.and_eq_false_iff]; exact Or.inl (decide_eq_false (by omega))) | (rw [Bool.and_eq_false_iff]; exact Or.inr (allB_no (k := i) (by omega) (decide_eq_false (by assumption)))) | (rw [Bool.and_eq_true]; exact ⟨decide_eq_true (by omega), allB_iff.mpr (fun k hk => decide_eq_true (hall k (by omega)))⟩))) (hR _ _ d_Tr_isLike_12)
end
section
theorem isD_lt {n : Nat} {f : Nat → Int32} {p : Nat} (h : isD (sN n f p) = true) : p < n := by
  rcases Nat.lt_or_ge p n with q | q
  · exact q
  · unfold sN at h
    rw [if_neg (by omega)] at h
    exact absurd h (by decide)
theorem isL_lt {n : Nat} {f : Nat → Int32} {p : Nat} (h : isL (sN n f p) = true) : p < n := by
  rcases Nat.lt_or_ge p n with q | q
  · exact q
  · unfold sN at h
    rw [if_neg (by omega)] at h
    exact absurd h (by decide)
theorem tvL_go {n : Nat} {f : Nat → Int32} {v : Int} {d p : Nat} (hd : d < 5) (h : isD (sN n f p) = true) : tvL n f (5 - (d + 1)) (v * ((10 : Nat) : Int) + (sN n f p).toInt - ((48 : Nat) : Int)) (p + 1) = tvL n f (5 - d) v p := by
  rw [show 5 - d = (5 - (d + 1)) + 1 by omega]
  simp only [tvL]
  rw [if_pos h]
  rfl
theorem tvL_no {n : Nat} {f : Nat → Int32} {v : Int} {k p : Nat} (h : isD (sN n f p) = false) : tvL n f k v p = (v, p) := by
  cases k with
  | zero => rfl
  | succ k =>
    simp only [tvL]
    rw [if_neg (by rw [h]; decide)]
theorem tvL_0 {n : Nat} {f : Nat → Int32} {v : Int} {d p : Nat} (h : 5 ≤ d) : tvL n f (5 - d) v p = (v, p) := by
  rw [show 5 - d = 0 by omega]
  rfl
/-- a value: -1 where there is none -/
def tvR (n : Nat) (f : Nat → Int32) (p : Nat) : Int := if (tvL n f 5 0 p).2 = p ∨ isD (sN n f (tvL n f 5 0 p).2) = true then -1 else (tvL n f 5 0 p).1
def tvP (n : Nat) (f : Nat → Int32) (p : Nat) : Nat := (tvL n f 5 0 p).2
theorem tvR_is {n : Nat} {f : Nat → Int32} {p q : Nat} {v : Int} (h : (v, q) = tvL n f 5 0 p) (hq : ¬ q = p) (hd : isD (sN n f q) = false) : v = tvR n f p := by
  unfold tvR
  rw [← h, if_neg]
  intro c
  rcases c with c | c
  · exact hq c
  · rw [hd] at c; cases c
theorem tvR_no {n : Nat} {f : Nat → Int32} {p q : Nat} {v : Int} (h : (v, q) = tvL n f 5 0 p) (hq : q = p ∨ isD (sN n f q) = true) : (-1 : Int) = tvR n f p := by
  unfold tvR
  rw [← h, if_pos hq]
/-- a row of letters kept -/
def kpF (uf : Nat → Int32) (n : Nat) (f : Nat → Int32) (p e : Nat) : Nat → Int32 := fun k => if k < e - p then sN n f (p + k) else uf k
theorem kp_go {uf h : Nat → Int32} {n : Nat} {f : Nat → Int32} {p i j : Nat} (hi : i = p + j) (hh : ∀ k, h k = if k < j then sN n f (p + k) else uf k) : ∀ k, upd h j (sN n f i) k = if k < j + 1 then sN n f (p + k) else uf k := by
  intro k
  unfold upd
  by_cases e : k = j
  · subst e
    rw [if_pos rfl, if_pos (by omega), hi]
  · rw [if_neg e, hh]
    by_cases c : k < j
    · rw [if_pos c, if_pos (by omega)]
    · rw [if_neg c, if_neg (by omega)]
set_option maxHeartbeats 4000000 in
set_option maxRecDepth 100000 in
theorem k_So_takeValue (l : Launch) (g : ZG) (s0 s1 sn sp : Nat) (sf : Nat → Int32) (hsn : sn ≤ 200) (hsp : sp ≤ sn)  : Ct l g y_So_takeValue c_So_takeValue 3 (some .int) { frames := 1, cells := 0, slots := 0, locals := 21 } [.ref s0] [(s0, .inr (6, [.ref s1, .int (iI ((sn : Nat) : Int)), .int (iI ((sp : Nat) : Int))])), (s1, .inl ((g.2.1 0), 200, .inl sf))] (some (.int (iI (tvR sn sf sp)))) [(s0, .inr (6, [.ref s1, .int (iI ((sn : Nat) : Int)), .int (iI ((tvP sn sf sp : Nat) : Int))])), (s1, .inl ((g.2.1 0), 200, .inl sf))] := by
  refine ct_i (lv := [(0, .ref s0)]) (by decide) rfl (Nat.le_of_ble_eq_true rfl) rfl ?_
  intro x hC hR
  refine z_iconstN hC 0 d_So_takeValue_0 rfl ?_
  refine z_istore_n (lv' := [(1, .int (iI ((0 : Nat) : Int))), (0, .ref s0)]) hC d_So_takeValue_1 rfl (by decide) rfl ?_
  refine z_iconstN hC 0 d_So_takeValue_2 rfl ?_
  refine z_istore_n (lv' := [(2, .int (iI ((0 : Nat) : Int))), (1, .int (iI ((0 : Nat) : Int))), (0, .ref s0)]) hC d_So_takeValue_3 rfl (by decide) rfl ?_
  have L_4 : ∀ (fu : Nat) (v : Int) (d p : Nat), (d ≤ 5) → (p = sp + d) → (p ≤ sn) → (tvL sn sf (5 - d) v p = tvL sn sf 5 0 sp) → 5 - d < fu → Z x (0, 0) [(s0, .inr (6, [.ref s1, .int (iI ((sn : Nat) : Int)), .int (iI ((p : Nat) : Int))])), (s1, .inl ((g.2.1 0), 200, .inl sf))] 4 [(2, .int (iI ((d : Nat) : Int))), (1, .int (iI v)), (0, .ref s0)] [] := by
    intro fu
    induction fu with
    | zero => intro v d p hd hp hpn ht hmu; exact absurd hmu (Nat.not_lt_zero _)
    | succ fu ih_4 =>
      intro v d p hd hp hpn ht hmu
      refine z_iload_n hC d_So_takeValue_4 rfl 0 rfl ?_
      refine z_iconstN hC 5 d_So_takeValue_5 rfl ?_
      refine z_icmp_ge (tgt := 56) hC ((d : Nat) : Int) ((5 : Nat) : Int) d_So_takeValue_6 rfl (iI_t (by omega)) (iI_t (by omega)) (fun c_1 => ?_) (fun c_1 => ?_)
      · have hq : (v, p) = tvL sn sf 5 0 sp := by first | exact (tvL_0 (by omega)).symm.trans ht | exact (tvL_no (by assumption)).symm.trans ht
        refine z_iload_n hC d_So_takeValue_56 rfl 0 rfl ?_
        refine z_if_eq (tgt := 74) hC ((d : Nat) : Int) d_So_takeValue_57 rfl (iI_t (by omega)) (fun c_2 => ?_) (fun c_2 => ?_)
        · refine z_iconst hC d_So_takeValue_74 ?_
          refine z_goto (tgt := 79) hC d_So_takeValue_75 rfl ?_
          exact Z.eq (by rw [tvP, ← hq]) rfl rfl (by first | (rw [tvR_no hq (Or.inl (by omega))]) | (rw [tvR_no hq (Or.inr (by assumption))]) | (rw [tvR_is hq (by omega) (by assumption)])) (hR _ _ d_So_takeValue_79)
        · refine z_aload_n hC d_So_takeValue_60 rfl 2 rfl ?_
          refine z_aload_n hC d_So_takeValue_61 rfl 2 rfl ?_
          refine z_get hC hi_So 0 rfl rfl 2 (by decide) mw_80 (Or.inl rfl) rfl d_So_takeValue_62 ?_
          refine z_callV (q0 := 0) (ci := 6) (w' := [(s0, .inr (6, [.ref s1, .int (iI ((sn : Nat) : Int)), .int (iI ((p : Nat) : Int))])), (s1, .inl ((g.2.1 0), 200, .inl sf))]) (st1 := [.int (sN sn sf p)]) hC (k_So_signAt l g s0 s1 sn p sf p hsn (by omega)) mw_311 zv_So_signAt rfl rfl ⟨Nat.le_of_ble_eq_true rfl, Nat.le_of_ble_eq_true rfl⟩ [0, 1] rfl rfl rfl rfl rfl rfl rfl rfl (Nat.le_of_ble_eq_true rfl) d_So_takeValue_65 rfl ⟨Nat.zero_le _, Nat.zero_le _⟩ rfl ?_
          refine z_callS (w' := [(s0, .inr (6, [.ref s1, .int (iI ((sn : Nat) : Int)), .int (iI ((p : Nat) : Int))])), (s1, .inl ((g.2.1 0), 200, .inl sf))]) (st1 := [.int (iI (bI (isD (sN sn sf p))))]) hC (k_So_isDigit l g (sN sn sf p)) mw_477 zs_So_isDigit rfl rfl ⟨Nat.le_of_ble_eq_true rfl, Nat.le_of_ble_eq_true rfl⟩ [] rfl rfl rfl rfl rfl (Nat.le_of_ble_eq_true rfl) d_So_takeValue_68 rfl ⟨Nat.zero_le _, Nat.zero_le _⟩ rfl ?_
          refine z_ifeqB (tgt := 78) hC d_So_takeValue_71 rfl (fun c_3 => ?_) (fun c_3 => ?_)
          · refine z_iload_n hC d_So_takeValue_78 rfl 1 rfl ?_
            exact Z.eq (by rw [tvP, ← hq]) rfl rfl (by first | (rw [tvR_no hq (Or.inl (by omega))]) | (rw [tvR_no hq (Or.inr (by assumption))]) | (rw [tvR_is hq (by omega) (by assumption)])) (hR _ _ d_So_takeValue_79)
          · refine z_iconst hC d_So_takeValue_74 ?_
            refine z_goto (tgt := 79) hC d_So_takeValue_75 rfl ?_
            exact Z.eq (by rw [tvP, ← hq]) rfl rfl (by first | (rw [tvR_no hq (Or.inl (by omega))]) | (rw [tvR_no hq (Or.inr (by assumption))]) | (rw [tvR_is hq (by omega) (by assumption)])) (hR _ _ d_So_takeValue_79)
      · refine z_aload_n hC d_So_takeValue_9 rfl 2 rfl ?_
        refine z_aload_n hC d_So_takeValue_10 rfl 2 rfl ?_
        refine z_get hC hi_So 0 rfl rfl 2 (by decide) mw_80 (Or.inl rfl) rfl d_So_takeValue_11 ?_
        refine z_callV (q0 := 0) (ci := 6) (w' := [(s0, .inr (6, [.ref s1, .int (iI ((sn : Nat) : Int)), .int (iI ((p : Nat) : Int))])), (s1, .inl ((g.2.1 0), 200, .inl sf))]) (st1 := [.int (sN sn sf p)]) hC (k_So_signAt l g s0 s1 sn p sf p hsn (by omega)) mw_311 zv_So_signAt rfl rfl ⟨Nat.le_of_ble_eq_true rfl, Nat.le_of_ble_eq_true rfl⟩ [0, 1] rfl rfl rfl rfl rfl rfl rfl rfl (Nat.le_of_ble_eq_true rfl) d_So_takeValue_14 rfl ⟨Nat.zero_le _, Nat.zero_le _⟩ rfl ?_
        refine z_callS (w' := [(s0, .inr (6, [.ref s1, .int (iI ((sn : Nat) : Int)), .int (iI ((p : Nat) : Int))])), (s1, .inl ((g.2.1 0), 200, .inl sf))]) (st1 := [.int (iI (bI (isD (sN sn sf p))))]) hC (k_So_isDigit l g (sN sn sf p)) mw_477 zs_So_isDigit rfl rfl ⟨Nat.le_of_ble_eq_true rfl, Nat.le_of_ble_eq_true rfl⟩ [] rfl rfl rfl rfl rfl (Nat.le_of_ble_eq_true rfl) d_So_takeValue_17 rfl ⟨Nat.zero_le _, Nat.zero_le _⟩ rfl ?_
        refine z_ifeqB (tgt := 56) hC d_So_takeValue_20 rfl (fun c_4 => ?_) (fun c_4 => ?_)
        · have hq : (v, p) = tvL sn sf 5 0 sp := by first | exact (tvL_0 (by omega)).symm.trans ht | exact (tvL_no (by assumption)).symm.trans ht
          refine z_iload_n hC d_So_takeValue_56 rfl 0 rfl ?_
          refine z_if_eq (tgt := 74) hC ((d : Nat) : Int) d_So_takeValue_57 rfl (iI_t (by omega)) (fun c_5 => ?_) (fun c_5 => ?_)
          · refine z_iconst hC d_So_takeValue_74 ?_
            refine z_goto (tgt := 79) hC d_So_takeValue_75 rfl ?_
            exact Z.eq (by rw [tvP, ← hq]) rfl rfl (by first | (rw [tvR_no hq (Or.inl (by omega))]) | (rw [tvR_no hq (Or.inr (by assumption))]) | (rw [tvR_is hq (by omega) (by assumption)])) (hR _ _ d_So_takeValue_79)
          · refine z_aload_n hC d_So_takeValue_60 rfl 2 rfl ?_
            refine z_aload_n hC d_So_takeValue_61 rfl 2 rfl ?_
            refine z_get hC hi_So 0 rfl rfl 2 (by decide) mw_80 (Or.inl rfl) rfl d_So_takeValue_62 ?_
            refine z_callV (q0 := 0) (ci := 6) (w' := [(s0, .inr (6, [.ref s1, .int (iI ((sn : Nat) : Int)), .int (iI ((p : Nat) : Int))])), (s1, .inl ((g.2.1 0), 200, .inl sf))]) (st1 := [.int (sN sn sf p)]) hC (k_So_signAt l g s0 s1 sn p sf p hsn (by omega)) mw_311 zv_So_signAt rfl rfl ⟨Nat.le_of_ble_eq_true rfl, Nat.le_of_ble_eq_true rfl⟩ [0, 1] rfl rfl rfl rfl rfl rfl rfl rfl (Nat.le_of_ble_eq_true rfl) d_So_takeValue_65 rfl ⟨Nat.zero_le _, Nat.zero_le _⟩ rfl ?_
            refine z_callS (w' := [(s0, .inr (6, [.ref s1, .int (iI ((sn : Nat) : Int)), .int (iI ((p : Nat) : Int))])), (s1, .inl ((g.2.1 0), 200, .inl sf))]) (st1 := [.int (iI (bI (isD (sN sn sf p))))]) hC (k_So_isDigit l g (sN sn sf p)) mw_477 zs_So_isDigit rfl rfl ⟨Nat.le_of_ble_eq_true rfl, Nat.le_of_ble_eq_true rfl⟩ [] rfl rfl rfl rfl rfl (Nat.le_of_ble_eq_true rfl) d_So_takeValue_68 rfl ⟨Nat.zero_le _, Nat.zero_le _⟩ rfl ?_
            refine z_ifeqB (tgt := 78) hC d_So_takeValue_71 rfl (fun c_6 => ?_) (fun c_6 => ?_)
            · refine z_iload_n hC d_So_takeValue_78 rfl 1 rfl ?_
              exact Z.eq (by rw [tvP, ← hq]) rfl rfl (by first | (rw [tvR_no hq (Or.inl (by omega))]) | (rw [tvR_no hq (Or.inr (by assumption))]) | (rw [tvR_is hq (by omega) (by assumption)])) (hR _ _ d_So_takeValue_79)
            · refine z_iconst hC d_So_takeValue_74 ?_
              refine z_goto (tgt := 79) hC d_So_takeValue_75 rfl ?_
              exact Z.eq (by rw [tvP, ← hq]) rfl rfl (by first | (rw [tvR_no hq (Or.inl (by omega))]) | (rw [tvR_no hq (Or.inr (by assumption))]) | (rw [tvR_is hq (by omega) (by assumption)])) (hR _ _ d_So_takeValue_79)
        · refine z_iload_n hC d_So_takeValue_23 rfl 1 rfl ?_
          refine z_bipush (a := ((10 : Nat) : Int)) hC d_So_takeValue_24 (by decide) ?_
          refine z_imul hC d_So_takeValue_26 ?_
          refine z_aload_n hC d_So_takeValue_27 rfl 2 rfl ?_
          refine z_aload_n hC d_So_takeValue_28 rfl 2 rfl ?_
          refine z_get hC hi_So 0 rfl rfl 2 (by decide) mw_80 (Or.inl rfl) rfl d_So_takeValue_29 ?_
          refine z_callV (q0 := 0) (ci := 6) (w' := [(s0, .inr (6, [.ref s1, .int (iI ((sn : Nat) : Int)), .int (iI ((p : Nat) : Int))])), (s1, .inl ((g.2.1 0), 200, .inl sf))]) (st1 := [.int (sN sn sf p), .int (iI (v * ((10 : Nat) : Int)))]) hC (k_So_signAt l g s0 s1 sn p sf p hsn (by omega)) mw_311 zv_So_signAt rfl rfl ⟨Nat.le_of_ble_eq_true rfl, Nat.le_of_ble_eq_true rfl⟩ [0, 1] rfl rfl rfl rfl rfl rfl rfl rfl (Nat.le_of_ble_eq_true rfl) d_So_takeValue_32 rfl ⟨Nat.zero_le _, Nat.zero_le _⟩ rfl ?_
          refine z_RI ?_
          refine z_iadd hC d_So_takeValue_35 ?_
          refine z_bipush (a := ((48 : Nat) : Int)) hC d_So_takeValue_36 (by decide) ?_
          refine z_isub hC d_So_takeValue_38 ?_
          refine z_istore_n (lv' := [(1, .int (iI (((v * ((10 : Nat) : Int)) + ((sN sn sf p).toInt)) - ((48 : Nat) : Int)))), (2, .int (iI ((d : Nat) : Int))), (0, .ref s0)]) hC d_So_takeValue_39 rfl (by decide) rfl ?_
          refine z_aload_n hC d_So_takeValue_40 rfl 2 rfl ?_
          refine z_dup hC d_So_takeValue_41 rfl ?_
          refine z_get hC hi_So 0 rfl rfl 2 (by decide) mw_80 (Or.inl rfl) rfl d_So_takeValue_42 ?_
          refine z_iconstN hC 1 d_So_takeValue_45 rfl ?_
          refine z_iaddN hC d_So_takeValue_46 ?_
          refine z_put (v := .int (iI ((p + 1 : Nat) : Int))) (ty := .int) (w' := [(s0, .inr (6, [.ref s1, .int (iI ((sn : Nat) : Int)), .int (iI ((p + 1 : Nat) : Int))])), (s1, .inl ((g.2.1 0), 200, .inl sf))]) hC hi_So ty_So ok_So nm_So 0 rfl rfl 2 (by decide) mw_80 rfl rfl rfl rfl rfl (Nat.le_of_ble_eq_true rfl) rfl d_So_takeValue_47 ?_
          refine z_iincN (lv' := [(2, .int (iI ((d + 1 : Nat) : Int))), (1, .int (iI (((v * ((10 : Nat) : Int)) + ((sN sn sf p).toInt)) - ((48 : Nat) : Int)))), (0, .ref s0)]) hC 1 d_So_takeValue_50 rfl 1 rfl (by decide) rfl ?_
          refine z_goto (tgt := 4) hC d_So_takeValue_53 rfl ?_
          exact Zloc [0, 1, 2] rfl (Z.eq (w' := [(s0, .inr (6, [.ref s1, .int (iI ((sn : Nat) : Int)), .int (iI (((p + 1) : Nat) : Int))])), (s1, .inl ((g.2.1 0), 200, .inl sf))]) rfl rfl rfl rfl (ih_4 (((v * ((10 : Nat) : Int)) + ((sN sn sf p).toInt)) - ((48 : Nat) : Int)) (d + 1) (p + 1) (by omega) (by omega) (isD_lt (by assumption)) ((tvL_go (by omega) (by assumption)).trans ht) (by omega)))
  exact Zloc [0, 1, 2] rfl (Z.eq (w' := [(s0, .inr (6, [.ref s1, .int (iI ((sn : Nat) : Int)), .int (iI ((sp : Nat) : Int))])), (s1, .inl ((g.2.1 0), 200, .inl sf))]) rfl rfl rfl rfl (L_4 _ ((0 : Nat) : Int) 0 sp (by omega) (by omega) (by omega) rfl (Nat.lt_succ_self _)))
set_option maxHeartbeats 4000000 in
set_option maxRecDepth 100000 in
theorem k_Un_forget (l : Launch) (g : ZG) (u0 u1 un : Nat) (uf : Nat → Int32)   : Ct l g y_Un_forget c_Un_forget 1 none { frames := 0, cells := 0, slots := 0, locals := 0 } [.ref u0] [(u0, .inr (8, [.ref u1, .int (iI ((un : Nat) : Int))])), (u1, .inl ((g.2.1 0), 200, .inl uf))] none [(u0, .inr (8, [.ref u1, .int (iI ((0 : Nat) : Int))])), (u1, .inl ((g.2.1 0), 200, .inl uf))] := by
  refine ct_v (lv := [(0, .ref u0)]) (by decide) rfl (Nat.le_of_ble_eq_true rfl) rfl ?_
  intro x hC hR
  refine z_aload_n hC d_Un_forget_0 rfl 0 rfl ?_
  refine z_iconstN hC 0 d_Un_forget_1 rfl ?_
  refine z_put (v := .int (iI ((0 : Nat) : Int))) (ty := .int) (w' := [(u0, .inr (8, [.ref u1, .int (iI ((0 : Nat) : Int))])), (u1, .inl ((g.2.1 0), 200, .inl uf))]) hC hi_Un ty_Un ok_Un nm_Un 0 rfl rfl 1 (by decide) mw_119 rfl rfl rfl rfl rfl (Nat.le_of_ble_eq_true rfl) rfl d_Un_forget_2 ?_
  exact Z.eq rfl rfl rfl rfl (hR _ _ d_Un_forget_5)
set_option maxHeartbeats 4000000 in
set_option maxRecDepth 100000 in
theorem k_Un_length (l : Launch) (g : ZG) (u0 u1 un : Nat) (uf : Nat → Int32)   : Ct l g y_Un_length c_Un_length 1 (some .int) { frames := 0, cells := 0, slots := 0, locals := 0 } [.ref u0] [(u0, .inr (8, [.ref u1, .int (iI ((un : Nat) : Int))])), (u1, .inl ((g.2.1 0), 200, .inl uf))] (some (.int (iI ((un : Nat) : Int)))) [(u0, .inr (8, [.ref u1, .int (iI ((un : Nat) : Int))])), (u1, .inl ((g.2.1 0), 200, .inl uf))] := by
  refine ct_i (lv := [(0, .ref u0)]) (by decide) rfl (Nat.le_of_ble_eq_true rfl) rfl ?_
  intro x hC hR
  refine z_aload_n hC d_Un_length_0 rfl 0 rfl ?_
  refine z_get hC hi_Un 0 rfl rfl 1 (by decide) mw_119 (Or.inl rfl) rfl d_Un_length_1 ?_
  exact Z.eq rfl rfl rfl rfl (hR _ _ d_Un_length_4)
set_option maxHeartbeats 4000000 in
set_option maxRecDepth 100000 in
theorem k_Un_letterAt (l : Launch) (g : ZG) (u0 u1 un : Nat) (uf : Nat → Int32) (k : Nat) (hun : un ≤ 200) (hk : k < 1000000)  : Ct l g y_Un_letterAt c_Un_letterAt 2 (some .int) { frames := 0, cells := 0, slots := 0, locals := 0 } [.ref u0, .int (iI ((k : Nat) : Int))] [(u0, .inr (8, [.ref u1, .int (iI ((un : Nat) : Int))])), (u1, .inl ((g.2.1 0), 200, .inl uf))] (some (.int (sN un uf k))) [(u0, .inr (8, [.ref u1, .int (iI ((un : Nat) : Int))])), (u1, .inl ((g.2.1 0), 200, .inl uf))] := by
  refine ct_i (lv := [(0, .ref u0), (1, .int (iI ((k : Nat) : Int)))]) (by decide) rfl (Nat.le_of_ble_eq_true rfl) rfl ?_
  intro x hC hR
  refine z_iload_n hC d_Un_letterAt_0 rfl 1 rfl ?_
  refine z_if_lt (tgt := 28) hC ((k : Nat) : Int) d_Un_letterAt_1 rfl (iI_t (by omega)) (fun c_1 => ?_) (fun c_1 => ?_)
  · refine z_iconst hC d_Un_letterAt_28 ?_
    exact Z.eq rfl rfl rfl (by first | (exfalso; omega) | (unfold sN; rw [if_pos (by omega)]; done) | (unfold sN; rw [if_neg (by omega)]; done)) (hR _ _ d_Un_letterAt_29)
  · refine z_iload_n hC d_Un_letterAt_4 rfl 1 rfl ?_
    refine z_aload_n hC d_Un_letterAt_5 rfl 0 rfl ?_
    refine z_get hC hi_Un 0 rfl rfl 1 (by decide) mw_119 (Or.inl rfl) rfl d_Un_letterAt_6 ?_
    refine z_icmp_ge (tgt := 28) hC ((k : Nat) : Int) ((un : Nat) : Int) d_Un_letterAt_9 rfl (iI_t (by omega)) (iI_t (by omega)) (fun c_2 => ?_) (fun c_2 => ?_)
    · refine z_iconst hC d_Un_letterAt_28 ?_
      exact Z.eq rfl rfl rfl (by first | (exfalso; omega) | (unfold sN; rw [if_pos (by omega)]; done) | (unfold sN; rw [if_neg (by omega)]; done)) (hR _ _ d_Un_letterAt_29)
    · refine z_iload_n hC d_Un_letterAt_12 rfl 1 rfl ?_
      refine z_sipush (a := ((200 : Nat) : Int)) hC d_Un_letterAt_13 (by decide) ?_
      refine z_icmp_ge (tgt := 28) hC ((k : Nat) : Int) ((200 : Nat) : Int) d_Un_letterAt_16 rfl (iI_t (by omega)) (iI_t (by omega)) (fun c_3 => ?_) (fun c_3 => ?_)
      · refine z_iconst hC d_Un_letterAt_28 ?_
        exact Z.eq rfl rfl rfl (by first | (exfalso; omega) | (unfold sN; rw [if_pos (by omega)]; done) | (unfold sN; rw [if_neg (by omega)]; done)) (hR _ _ d_Un_letterAt_29)
      · refine z_aload_n hC d_Un_letterAt_19 rfl 0 rfl ?_
        refine z_get hC hi_Un 0 rfl rfl 0 (by decide) mw_118 (Or.inl rfl) rfl d_Un_letterAt_20 ?_
        refine z_iload_n hC d_Un_letterAt_23 rfl 1 rfl ?_
        refine z_iald hC 1 0 rfl rfl k rfl (by omega) (by decide) d_Un_letterAt_24 ?_
        refine z_goto (tgt := 29) hC d_Un_letterAt_25 rfl ?_
        exact Z.eq rfl rfl rfl (by first | (exfalso; omega) | (unfold sN; rw [if_pos (by omega)]; done) | (unfold sN; rw [if_neg (by omega)]; done)) (hR _ _ d_Un_letterAt_29)
set_option maxHeartbeats 4000000 in
set_option maxRecDepth 100000 in
theorem k_Un_keep (l : Launch) (g : ZG) (u0 u1 un : Nat) (uf : Nat → Int32) (s0 s1 sn sp : Nat) (sf : Nat → Int32) (e : Nat) (hsn : sn ≤ 200) (hsp : sp ≤ sn) (hpe : sp ≤ e) (hes : e ≤ sn)  : Ct l g y_Un_keep c_Un_keep 5 none { frames := 1, cells := 0, slots := 0, locals := 21 } [.ref u0, .ref s0, .int (iI ((e : Nat) : Int))] [(u0, .inr (8, [.ref u1, .int (iI ((un : Nat) : Int))])), (u1, .inl ((g.2.1 0), 200, .inl uf)), (s0, .inr (6, [.ref s1, .int (iI ((sn : Nat) : Int)), .int (iI ((sp : Nat) : Int))])), (s1, .inl ((g.2.1 0), 200, .inl sf))] none [(u0, .inr (8, [.ref u1, .int (iI ((e - sp : Nat) : Int))])), (u1, .inl ((g.2.1 0), 200, .inl (kpF uf sn sf sp e))), (s0, .inr (6, [.ref s1, .int (iI ((sn : Nat) : Int)), .int (iI ((sp : Nat) : Int))])), (s1, .inl ((g.2.1 0), 200, .inl sf))] := by
  refine ct_v (lv := [(0, .ref u0), (1, .ref s0), (2, .int (iI ((e : Nat) : Int)))]) (by decide) rfl (Nat.le_of_ble_eq_true rfl) rfl ?_
  intro x hC hR
  refine z_aload_n hC d_Un_keep_0 rfl 1 rfl ?_
  refine z_callV (q0 := 2) (ci := 6) (w' := [(u0, .inr (8, [.ref u1, .int (iI ((un : Nat) : Int))])), (u1, .inl ((g.2.1 0), 200, .inl uf)), (s0, .inr (6, [.ref s1, .int (iI ((sn : Nat) : Int)), .int (iI ((sp : Nat) : Int))])), (s1, .inl ((g.2.1 0), 200, .inl sf))]) (st1 := [.int (iI ((sp : Nat) : Int))]) hC (k_So_place l g s0 s1 sn sp sf) mw_462 zv_So_place rfl rfl ⟨Nat.le_of_ble_eq_true rfl, Nat.le_of_ble_eq_true rfl⟩ [2, 3] rfl rfl rfl rfl rfl rfl rfl rfl (Nat.le_of_ble_eq_true rfl) d_Un_keep_1 rfl ⟨Nat.zero_le _, Nat.zero_le _⟩ rfl ?_
  refine z_istore_n (lv' := [(3, .int (iI ((sp : Nat) : Int))), (0, .ref u0), (1, .ref s0), (2, .int (iI ((e : Nat) : Int)))]) hC d_Un_keep_4 rfl (by decide) rfl ?_
  refine z_aload_n hC d_Un_keep_5 rfl 1 rfl ?_
  refine z_iconstN hC 0 d_Un_keep_6 rfl ?_
  refine z_put (v := .int (iI ((0 : Nat) : Int))) (ty := .int) (w' := [(u0, .inr (8, [.ref u1, .int (iI ((0 : Nat) : Int))])), (u1, .inl ((g.2.1 0), 200, .inl uf)), (s0, .inr (6, [.ref s1, .int (iI ((sn : Nat) : Int)), .int (iI ((sp : Nat) : Int))])), (s1, .inl ((g.2.1 0), 200, .inl sf))]) hC hi_Un ty_Un ok_Un nm_Un 0 rfl rfl 1 (by decide) mw_119 rfl rfl rfl rfl rfl (Nat.le_of_ble_eq_true rfl) rfl d_Un_keep_7 ?_
  refine z_iload_n hC d_Un_keep_10 rfl 0 rfl ?_
  refine z_istore (lv' := [(4, .int (iI ((sp : Nat) : Int))), (3, .int (iI ((sp : Nat) : Int))), (0, .ref u0), (1, .ref s0), (2, .int (iI ((e : Nat) : Int)))]) hC d_Un_keep_11 (by decide) rfl ?_
  have L_13 : ∀ (fu : Nat) (i j : Nat) (h : Nat → Int32), (i = sp + j) → (i ≤ e) → (∀ k, h k = if k < j then sN sn sf (sp + k) else uf k) → e - i < fu → Z x (0, 0) [(u0, .inr (8, [.ref u1, .int (iI ((j : Nat) : Int))])), (u1, .inl ((g.2.1 0), 200, .inl h)), (s0, .inr (6, [.ref s1, .int (iI ((sn : Nat) : Int)), .int (iI ((sp : Nat) : Int))])), (s1, .inl ((g.2.1 0), 200, .inl sf))] 13 [(4, .int (iI ((i : Nat) : Int))), (3, .int (iI ((sp : Nat) : Int))), (0, .ref u0), (1, .ref s0), (2, .int (iI ((e : Nat) : Int)))] [] := by
    intro fu
    induction fu with
    | zero => intro i j h hij hie hh hmu; exact absurd hmu (Nat.not_lt_zero _)
    | succ fu ih_13 =>
      intro i j h hij hie hh hmu
      refine z_iload hC d_Un_keep_13 0 rfl ?_
      refine z_iload_n hC d_Un_keep_15 rfl 4 rfl ?_
      refine z_icmp_ge (tgt := 60) hC ((i : Nat) : Int) ((e : Nat) : Int) d_Un_keep_16 rfl (iI_t (by omega)) (iI_t (by omega)) (fun c_1 => ?_) (fun c_1 => ?_)
      · exact Z.eq (by first | (exfalso; omega) | (rw [show h = kpF uf sn sf sp e from funext (fun k => by rw [hh, kpF, show j = e - sp by omega]), show j = e - sp by omega])) rfl rfl rfl (hR _ _ d_Un_keep_60)
      · refine z_aload_n hC d_Un_keep_19 rfl 2 rfl ?_
        refine z_get hC hi_Un 0 rfl rfl 1 (by decide) mw_119 (Or.inl rfl) rfl d_Un_keep_20 ?_
        refine z_sipush (a := ((200 : Nat) : Int)) hC d_Un_keep_23 (by decide) ?_
        refine z_icmp_ge (tgt := 60) hC ((j : Nat) : Int) ((200 : Nat) : Int) d_Un_keep_26 rfl (iI_t (by omega)) (iI_t (by omega)) (fun c_2 => ?_) (fun c_2 => ?_)
        · exact Z.eq (by first | (exfalso; omega) | (rw [show h = kpF uf sn sf sp e from funext (fun k => by rw [hh, kpF, show j = e - sp by omega]), show j = e - sp by omega])) rfl rfl rfl (hR _ _ d_Un_keep_60)
        · refine z_aload_n hC d_Un_keep_29 rfl 2 rfl ?_
          refine z_get hC hi_Un 0 rfl rfl 0 (by decide) mw_118 (Or.inl rfl) rfl d_Un_keep_30 ?_
          refine z_aload_n hC d_Un_keep_33 rfl 2 rfl ?_
          refine z_get hC hi_Un 0 rfl rfl 1 (by decide) mw_119 (Or.inl rfl) rfl d_Un_keep_34 ?_
          refine z_aload_n hC d_Un_keep_37 rfl 3 rfl ?_
          refine z_iload hC d_Un_keep_38 0 rfl ?_
          refine z_callV (q0 := 2) (ci := 6) (w' := [(u0, .inr (8, [.ref u1, .int (iI ((j : Nat) : Int))])), (u1, .inl ((g.2.1 0), 200, .inl h)), (s0, .inr (6, [.ref s1, .int (iI ((sn : Nat) : Int)), .int (iI ((sp : Nat) : Int))])), (s1, .inl ((g.2.1 0), 200, .inl sf))]) (st1 := [.int (sN sn sf i), .int (iI ((j : Nat) : Int)), .ref u1]) hC (k_So_signAt l g s0 s1 sn sp sf i hsn (by omega)) mw_463 zv_So_signAt rfl rfl ⟨Nat.le_of_ble_eq_true rfl, Nat.le_of_ble_eq_true rfl⟩ [2, 3] rfl rfl rfl rfl rfl rfl rfl rfl (Nat.le_of_ble_eq_true rfl) d_Un_keep_40 rfl ⟨Nat.zero_le _, Nat.zero_le _⟩ rfl ?_
          refine z_iast (v := (sN sn sf i)) (w' := [(u0, .inr (8, [.ref u1, .int (iI ((j : Nat) : Int))])), (u1, .inl ((g.2.1 0), 200, .inl (upd h j (sN sn sf i)))), (s0, .inr (6, [.ref s1, .int (iI ((sn : Nat) : Int)), .int (iI ((sp : Nat) : Int))])), (s1, .inl ((g.2.1 0), 200, .inl sf))]) hC 1 0 rfl rfl j rfl (by omega) (by decide) rfl d_Un_keep_43 ?_
          refine z_aload_n hC d_Un_keep_44 rfl 2 rfl ?_
          refine z_dup hC d_Un_keep_45 rfl ?_
          refine z_get hC hi_Un 0 rfl rfl 1 (by decide) mw_119 (Or.inl rfl) rfl d_Un_keep_46 ?_
          refine z_iconstN hC 1 d_Un_keep_49 rfl ?_
          refine z_iaddN hC d_Un_keep_50 ?_
          refine z_put (v := .int (iI ((j + 1 : Nat) : Int))) (ty := .int) (w' := [(u0, .inr (8, [.ref u1, .int (iI ((j + 1 : Nat) : Int))])), (u1, .inl ((g.2.1 0), 200, .inl (upd h j (sN sn sf i)))), (s0, .inr (6, [.ref s1, .int (iI ((sn : Nat) : Int)), .int (iI ((sp : Nat) : Int))])), (s1, .inl ((g.2.1 0), 200, .inl sf))]) hC hi_Un ty_Un ok_Un nm_Un 0 rfl rfl 1 (by decide) mw_119 rfl rfl rfl rfl rfl (Nat.le_of_ble_eq_true rfl) rfl d_Un_keep_51 ?_
          refine z_iincN (lv' := [(4, .int (iI ((i + 1 : Nat) : Int))), (3, .int (iI ((sp : Nat) : Int))), (0, .ref u0), (1, .ref s0), (2, .int (iI ((e : Nat) : Int)))]) hC 1 d_Un_keep_54 rfl 0 rfl (by decide) rfl ?_
          refine z_goto (tgt := 13) hC d_Un_keep_57 rfl ?_
          exact Zloc [0, 1, 2, 3, 4] rfl (Z.eq (w' := [(u0, .inr (8, [.ref u1, .int (iI (((j + 1) : Nat) : Int))])), (u1, .inl ((g.2.1 0), 200, .inl (upd h j (sN sn sf i)))), (s0, .inr (6, [.ref s1, .int (iI ((sn : Nat) : Int)), .int (iI ((sp : Nat) : Int))])), (s1, .inl ((g.2.1 0), 200, .inl sf))]) rfl rfl rfl rfl (ih_13 (i + 1) (j + 1) (upd h j (sN sn sf i)) (by omega) (by omega) (kp_go hij hh) (by omega)))
  exact Zloc [0, 1, 2, 3, 4] rfl (Z.eq (w' := [(u0, .inr (8, [.ref u1, .int (iI ((0 : Nat) : Int))])), (u1, .inl ((g.2.1 0), 200, .inl uf)), (s0, .inr (6, [.ref s1, .int (iI ((sn : Nat) : Int)), .int (iI ((sp : Nat) : Int))])), (s1, .inl ((g.2.1 0), 200, .inl sf))]) rfl rfl rfl rfl (L_13 _ sp 0 uf (by omega) hpe (fun k => by rw [if_neg (by omega)]) (Nat.lt_succ_self _)))
end
section
theorem z_RI3 {x : ZC} {u : Nat × Nat} {w : va_W} {pc : Nat} {lv : List (Nat × Value)} {st : List Value} {v : Int32} {y y2 : Value} (k : Z x u w pc lv (y :: y2 :: .int (iI v.toInt) :: st)) : Z x u w pc lv (y :: y2 :: .int v :: st) := by rw [iI_of] at k; exact k
theorem zmin_code : Cond.code Lib.Math.min.name Lib.Math.min.code 2 (some .int) ∈ zTB := mw_598
theorem z_mminN {x : ZC} {l : Launch} {g : ZG} {R : Room} {cc : ByteArray} {nL : Nat} {own : String} {u : Nat × Nat} {w : va_W} {pc : Nat} {lv : List (Nat × Value)} {st : List Value} (hC : zO x l g R cc nL own) {a b index : Nat} (hl0 : Cond.methodLink own index ⟨"java/lang/Math", "min", "(II)I"⟩ ∈ zTB) (ha : a < 2147483648) (hb9 : b < 2147483648) (hf : 1 ≤ R.frames) (hlo : 21 ≤ R.locals) (hd : decode cc pc = .ok (.invokestatic index, 3)) (k : Z x u w (pc + 3) lv (.int (iI ((min a b : Nat) : Int)) :: st)) (hsum : (st.map fun v => v.category).sum ≤ 8 := by exact Nat.le_of_ble_eq_true rfl) (hu : u.1 ≤ R.cells ∧ u.2 ≤ R.slots := by exact ⟨Nat.zero_le _, Nat.zero_le _⟩) : Z x u w pc lv (.int (iI ((b : Nat) : Int)) :: .int (iI ((a : Nat) : Int)) :: st) := by
  obtain ⟨p, l', e, R', s, m, args, below, meth, c, g', A, H0, Q, nL'⟩ := x
  obtain ⟨rfl, rfl, rfl, rfl, ⟨hx, hb, hml, hown, hts⟩, hK, rfl, hA⟩ := hC
  have e1 : (if iI ((b : Nat) : Int) < iI ((a : Nat) : Int) then iI ((b : Nat) : Int) else iI ((a : Nat) : Int)) = iI ((min a b : Nat) : Int) := by
    by_cases h : b < a
    · rw [if_pos ((zc_lt (iI_t (by omega)) (iI_t (by omega))).mpr (by omega)), show min a b = b by omega]
    · rw [if_neg (fun z => h (by have := (zc_lt (a := (b : Int)) (b := (a : Int)) (iI_t (by omega)) (iI_t (by omega))).mp z; omega)), show min a b = a by omega]
  exact fun H locs ls hP hD hS hl => va_mmin hx hb (hml.trans hl.1.symm) hown (hts _ hl0) (hts _ mw_597) (hts _ mw_63) (hts _ zmin_code) hf (by omega) hu.1 hu.2 hd (by rw [e1]; exact k H locs ls hP hD hS hl)
/-! ===== indexes ===== -/
def brk (c : Nat) (o : Nat → Bool) (x : Int32) : Bool := decide (0 ≤ x.toInt ∧ x.toInt < c) && !(o x.toInt.toNat)
def nmB (xn : Nat → Nat) (xl : Nat → Int32) (n : Nat) (f : Nat → Int32) (p e k : Nat) : Bool := decide (xn k = e - p) && allB (fun j => decide (xl (k * 8 + j) = sN n f (p + j))) (xn k)
def fnd (P : Nat → Bool) : Nat → Nat → Int
  | 0, _ => -1
  | n + 1, i => if P i = true then (i : Int) else fnd P n (i + 1)
theorem fnd_go {P : Nat → Bool} {c i : Nat} (hi : i < c) (h : P i = false) : fnd P (c - (i + 1)) (i + 1) = fnd P (c - i) i := by
  rw [show c - i = (c - (i + 1)) + 1 by omega]
  simp only [fnd]
  rw [if_neg (by rw [h]; decide)]
theorem fnd_hit {P : Nat → Bool} {c i : Nat} (hi : i < c) (h : P i = true) : fnd P (c - i) i = (i : Int) := by
  rw [show c - i = (c - (i + 1)) + 1 by omega]
  simp only [fnd]
  rw [if_pos h]
theorem fnd_out {P : Nat → Bool} {c i : Nat} (hi : c ≤ i) : fnd P (c - i) i = -1 := by
  rw [show c - i = 0 by omega]
  rfl
theorem fnd_rng (P : Nat → Bool) : ∀ (n i : Nat), fnd P n i = -1 ∨ ((i : Int) ≤ fnd P n i ∧ fnd P n i < i + n)
  | 0, i => Or.inl rfl
  | n + 1, i => by
    simp only [fnd]
    split
    · exact Or.inr (by omega)
    · rcases fnd_rng P n (i + 1) with h | h
      · exact Or.inl h
      · exact Or.inr (by omega)
set_option maxHeartbeats 4000000 in
set_option maxRecDepth 100000 in
theorem k_Ix_has (l : Launch) (g : ZG) (x0 x1 x2 x3 x4 xc : Nat) (xl : Nat → Int32) (xn : Nat → Nat) (xo : Nat → Bool) (ch : Nat → Nat) (i : Int) (hxc : xc ≤ 8) (hi : -2147483648 ≤ i ∧ i < 2147483648)  : Ct l g y_Ix_has c_Ix_has 2 (some .boolean) { frames := 0, cells := 0, slots := 0, locals := 0 } [.ref x0, .int (iI i)] [(x0, .inr (3, [.ref x1, .ref x2, .ref x3, .ref x4, .int (iI ((xc : Nat) : Int))])), (x1, .inl ((g.2.1 0), 64, .inl xl)), (x2, .inl ((g.2.1 0), 8, .inl (nF xn))), (x3, .inl ((g.2.1 2), 8, .inl (bF xo))), (x4, .inl ((g.2.1 0), 9, .inl (nF ch)))] (some (.int (iI (bI (decide (0 ≤ i ∧ i < xc)))))) [(x0, .inr (3, [.ref x1, .ref x2, .ref x3, .ref x4, .int (iI ((xc : Nat) : Int))])), (x1, .inl ((g.2.1 0), 64, .inl xl)), (x2, .inl ((g.2.1 0), 8, .inl (nF xn))), (x3, .inl ((g.2.1 2), 8, .inl (bF xo))), (x4, .inl ((g.2.1 0), 9, .inl (nF ch)))] := by
  refine ct_z (lv := [(0, .ref x0), (1, .int (iI i))]) (by decide) rfl (Nat.le_of_ble_eq_true rfl) rfl ?_
  intro x hC hR
  refine z_iload_n hC d_Ix_has_0 rfl 1 rfl ?_
  refine z_if_lt (tgt := 22) hC i d_Ix_has_1 rfl (iI_t (by omega)) (fun c_1 => ?_) (fun c_1 => ?_)
  · refine z_iconstN hC 0 d_Ix_has_22 rfl ?_
    exact Z.eq rfl rfl rfl (zb_f (decide_eq_false (by omega))) (hR _ _ d_Ix_has_23)
  · refine z_iload_n hC d_Ix_has_4 rfl 1 rfl ?_
    refine z_aload_n hC d_Ix_has_5 rfl 0 rfl ?_
    refine z_get hC hi_Ix 0 rfl rfl 4 (by decide) mw_99 (Or.inl rfl) rfl d_Ix_has_6 ?_
    refine z_icmp_ge (tgt := 22) hC i ((xc : Nat) : Int) d_Ix_has_9 rfl (iI_t (by omega)) (iI_t (by omega)) (fun c_2 => ?_) (fun c_2 => ?_)
    · refine z_iconstN hC 0 d_Ix_has_22 rfl ?_
      exact Z.eq rfl rfl rfl (zb_f (decide_eq_false (by omega))) (hR _ _ d_Ix_has_23)
    · refine z_iload_n hC d_Ix_has_12 rfl 1 rfl ?_
      refine z_bipush (a := ((8 : Nat) : Int)) hC d_Ix_has_13 (by decide) ?_
      refine z_icmp_ge (tgt := 22) hC i ((8 : Nat) : Int) d_Ix_has_15 rfl (iI_t (by omega)) (iI_t (by omega)) (fun c_3 => ?_) (fun c_3 => ?_)
      · refine z_iconstN hC 0 d_Ix_has_22 rfl ?_
        exact Z.eq rfl rfl rfl (zb_f (decide_eq_false (by omega))) (hR _ _ d_Ix_has_23)
      · refine z_iconstN hC 1 d_Ix_has_18 rfl ?_
        refine z_goto (tgt := 23) hC d_Ix_has_19 rfl ?_
        exact Z.eq rfl rfl rfl (zb_t (decide_eq_true (by omega))) (hR _ _ d_Ix_has_23)
set_option maxHeartbeats 4000000 in
set_option maxRecDepth 100000 in
theorem k_Ix_turn (l : Launch) (g : ZG) (x0 x1 x2 x3 x4 xc : Nat) (xl : Nat → Int32) (xn : Nat → Nat) (xo : Nat → Bool) (ch : Nat → Nat) (i : Int) (on : Bool) (hxc : xc ≤ 8) (hi : -2147483648 ≤ i ∧ i < 2147483648)  : Ct l g y_Ix_turn c_Ix_turn 4 (some .boolean) { frames := 1, cells := 0, slots := 0, locals := 21 } [.ref x0, .int (iI i), .int (iI (bI on))] [(x0, .inr (3, [.ref x1, .ref x2, .ref x3, .ref x4, .int (iI ((xc : Nat) : Int))])), (x1, .inl ((g.2.1 0), 64, .inl xl)), (x2, .inl ((g.2.1 0), 8, .inl (nF xn))), (x3, .inl ((g.2.1 2), 8, .inl (bF xo))), (x4, .inl ((g.2.1 0), 9, .inl (nF ch)))] (some (.int (iI (bI (decide (0 ≤ i ∧ i < xc) && xo i.toNat))))) [(x0, .inr (3, [.ref x1, .ref x2, .ref x3, .ref x4, .int (iI ((xc : Nat) : Int))])), (x1, .inl ((g.2.1 0), 64, .inl xl)), (x2, .inl ((g.2.1 0), 8, .inl (nF xn))), (x3, .inl ((g.2.1 2), 8, .inl (bF (if 0 ≤ i ∧ i < xc then up xo i.toNat on else xo)))), (x4, .inl ((g.2.1 0), 9, .inl (nF ch)))] := by
  refine ct_z (lv := [(0, .ref x0), (1, .int (iI i)), (2, .int (iI (bI on)))]) (by decide) rfl (Nat.le_of_ble_eq_true rfl) rfl ?_
  intro x hC hR
  refine z_aload_n hC d_Ix_turn_0 rfl 0 rfl ?_
  refine z_iload_n hC d_Ix_turn_1 rfl 1 rfl ?_
  refine z_callV (q0 := 0) (ci := 3) (w' := [(x0, .inr (3, [.ref x1, .ref x2, .ref x3, .ref x4, .int (iI ((xc : Nat) : Int))])), (x1, .inl ((g.2.1 0), 64, .inl xl)), (x2, .inl ((g.2.1 0), 8, .inl (nF xn))), (x3, .inl ((g.2.1 2), 8, .inl (bF xo))), (x4, .inl ((g.2.1 0), 9, .inl (nF ch)))]) (st1 := [.int (iI (bI (decide (0 ≤ i ∧ i < xc))))]) hC (k_Ix_has l g x0 x1 x2 x3 x4 xc xl xn xo ch i hxc hi) mw_393 zv_Ix_has rfl rfl ⟨Nat.le_of_ble_eq_true rfl, Nat.le_of_ble_eq_true rfl⟩ [0, 1, 2, 3, 4] rfl rfl rfl rfl rfl rfl rfl rfl (Nat.le_of_ble_eq_true rfl) d_Ix_turn_2 rfl ⟨Nat.zero_le _, Nat.zero_le _⟩ rfl ?_
  refine z_ifneD (tgt := 10) hC d_Ix_turn_5 rfl (fun c_1 => ?_) (fun c_1 => ?_)
  · refine z_aload_n hC d_Ix_turn_10 rfl 0 rfl ?_
    refine z_get hC hi_Ix 0 rfl rfl 2 (by decide) mw_97 (Or.inl rfl) rfl d_Ix_turn_11 ?_
    refine z_iload_n hC d_Ix_turn_14 rfl 1 rfl ?_
    refine z_zaldB hC 3 2 rfl rfl ((i).toNat) (by omega) (by omega) (by decide) d_Ix_turn_15 ?_
    refine z_istore_n (lv' := [(3, .int (iI (bI (xo ((i).toNat))))), (0, .ref x0), (1, .int (iI i)), (2, .int (iI (bI on)))]) hC d_Ix_turn_16 rfl (by decide) rfl ?_
    refine z_aload_n hC d_Ix_turn_17 rfl 1 rfl ?_
    refine z_get hC hi_Ix 0 rfl rfl 2 (by decide) mw_97 (Or.inl rfl) rfl d_Ix_turn_18 ?_
    refine z_iload_n hC d_Ix_turn_21 rfl 2 rfl ?_
    refine z_iload_n hC d_Ix_turn_22 rfl 3 rfl ?_
    refine z_zastB (v := on) (w' := [(x0, .inr (3, [.ref x1, .ref x2, .ref x3, .ref x4, .int (iI ((xc : Nat) : Int))])), (x1, .inl ((g.2.1 0), 64, .inl xl)), (x2, .inl ((g.2.1 0), 8, .inl (nF xn))), (x3, .inl ((g.2.1 2), 8, .inl (bF (up xo ((i).toNat) on)))), (x4, .inl ((g.2.1 0), 9, .inl (nF ch)))]) hC 3 2 rfl rfl ((i).toNat) (by omega) (by omega) (by decide) rfl d_Ix_turn_23 ?_
    refine z_iload_n hC d_Ix_turn_24 rfl 0 rfl ?_
    exact Z.eq (by first | (rw [if_neg (by omega)]; done) | (rw [if_pos (by omega)]; done)) rfl rfl (zb_e (by first | (rw [decide_eq_false (by omega)]; rfl) | (rw [decide_eq_true (by omega)]; rfl))) (hR _ _ d_Ix_turn_25)
  · refine z_iconstN hC 0 d_Ix_turn_8 rfl ?_
    exact Z.eq (by first | (rw [if_neg (by omega)]; done) | (rw [if_pos (by omega)]; done)) rfl rfl (zb_f (by first | (rw [decide_eq_false (by omega)]; rfl) | (rw [decide_eq_true (by omega)]; rfl))) (hR _ _ d_Ix_turn_9)
set_option maxHeartbeats 4000000 in
set_option maxRecDepth 100000 in
theorem k_Ix_isBroken (l : Launch) (g : ZG) (x0 x1 x2 x3 x4 xc : Nat) (xl : Nat → Int32) (xn : Nat → Nat) (xo : Nat → Bool) (ch : Nat → Nat) (t0 t1 t2 t3 t4 tn : Nat) (nd : Nat → QD) (hxc : xc ≤ 8) (htn : tn ≤ 40)  : Ct l g y_Ix_isBroken c_Ix_isBroken 4 (some .boolean) { frames := 2, cells := 0, slots := 0, locals := 42 } [.ref x0, .ref t0] [(x0, .inr (3, [.ref x1, .ref x2, .ref x3, .ref x4, .int (iI ((xc : Nat) : Int))])), (x1, .inl ((g.2.1 0), 64, .inl xl)), (x2, .inl ((g.2.1 0), 8, .inl (nF xn))), (x3, .inl ((g.2.1 2), 8, .inl (bF xo))), (x4, .inl ((g.2.1 0), 9, .inl (nF ch))), (t0, .inr (7, [.ref t1, .ref t2, .ref t3, .ref t4, .int (iI ((tn : Nat) : Int))])), (t1, .inl ((g.2.1 0), 40, .inl (q1 nd))), (t2, .inl ((g.2.1 0), 40, .inl (q2 nd))), (t3, .inl ((g.2.1 0), 40, .inl (q3 nd))), (t4, .inl ((g.2.1 0), 40, .inl (q4 nd)))] (some (.int (iI (bI (exB (fun k => brk xc xo (nd k).2.1) tn))))) [(x0, .inr (3, [.ref x1, .ref x2, .ref x3, .ref x4, .int (iI ((xc : Nat) : Int))])), (x1, .inl ((g.2.1 0), 64, .inl xl)), (x2, .inl ((g.2.1 0), 8, .inl (nF xn))), (x3, .inl ((g.2.1 2), 8, .inl (bF xo))), (x4, .inl ((g.2.1 0), 9, .inl (nF ch))), (t0, .inr (7, [.ref t1, .ref t2, .ref t3, .ref t4, .int (iI ((tn : Nat) : Int))])), (t1, .inl ((g.2.1 0), 40, .inl (q1 nd))), (t2, .inl ((g.2.1 0), 40, .inl (q2 nd))), (t3, .inl ((g.2.1 0), 40, .inl (q3 nd))), (t4, .inl ((g.2.1 0), 40, .inl (q4 nd)))] := by
  refine ct_z (lv := [(0, .ref x0), (1, .ref t0)]) (by decide) rfl (Nat.le_of_ble_eq_true rfl) rfl ?_
  intro x hC hR
  refine z_iconstN hC 0 d_Ix_isBroken_0 rfl ?_
  refine z_istore_n (lv' := [(2, .int (iI ((0 : Nat) : Int))), (0, .ref x0), (1, .ref t0)]) hC d_Ix_isBroken_1 rfl (by decide) rfl ?_
  have L_2 : ∀ (fu : Nat) (i : Nat), (i ≤ tn) → (∀ k, k < i → brk xc xo (nd k).2.1 = false) → tn - i < fu → Z x (0, 0) [(x0, .inr (3, [.ref x1, .ref x2, .ref x3, .ref x4, .int (iI ((xc : Nat) : Int))])), (x1, .inl ((g.2.1 0), 64, .inl xl)), (x2, .inl ((g.2.1 0), 8, .inl (nF xn))), (x3, .inl ((g.2.1 2), 8, .inl (bF xo))), (x4, .inl ((g.2.1 0), 9, .inl (nF ch))), (t0, .inr (7, [.ref t1, .ref t2, .ref t3, .ref t4, .int (iI ((tn : Nat) : Int))])), (t1, .inl ((g.2.1 0), 40, .inl (q1 nd))), (t2, .inl ((g.2.1 0), 40, .inl (q2 nd))), (t3, .inl ((g.2.1 0), 40, .inl (q3 nd))), (t4, .inl ((g.2.1 0), 40, .inl (q4 nd)))] 2 [(2, .int (iI ((i : Nat) : Int))), (0, .ref x0), (1, .ref t0)] [] := by
    intro fu
    induction fu with
    | zero => intro i hi hall hmu; exact absurd hmu (Nat.not_lt_zero _)
    | succ fu ih_2 =>
      intro i hi hall hmu
      refine z_iload_n hC d_Ix_isBroken_2 rfl 0 rfl ?_
      refine z_aload_n hC d_Ix_isBroken_3 rfl 2 rfl ?_
      refine z_callV (q0 := 5) (ci := 7) (w' := [(x0, .inr (3, [.ref x1, .ref x2, .ref x3, .ref x4, .int (iI ((xc : Nat) : Int))])), (x1, .inl ((g.2.1 0), 64, .inl xl)), (x2, .inl ((g.2.1 0), 8, .inl (nF xn))), (x3, .inl ((g.2.1 2), 8, .inl (bF xo))), (x4, .inl ((g.2.1 0), 9, .inl (nF ch))), (t0, .inr (7, [.ref t1, .ref t2, .ref t3, .ref t4, .int (iI ((tn : Nat) : Int))])), (t1, .inl ((g.2.1 0), 40, .inl (q1 nd))), (t2, .inl ((g.2.1 0), 40, .inl (q2 nd))), (t3, .inl ((g.2.1 0), 40, .inl (q3 nd))), (t4, .inl ((g.2.1 0), 40, .inl (q4 nd)))]) (st1 := [.int (iI ((tn : Nat) : Int)), .int (iI ((i : Nat) : Int))]) hC (k_Tr_size l g t0 t1 t2 t3 t4 tn nd) mw_650 zv_Tr_size rfl rfl ⟨Nat.le_of_ble_eq_true rfl, Nat.le_of_ble_eq_true rfl⟩ [5, 6, 7, 8, 9] rfl rfl rfl rfl rfl rfl rfl rfl (Nat.le_of_ble_eq_true rfl) d_Ix_isBroken_4 rfl ⟨Nat.zero_le _, Nat.zero_le _⟩ rfl ?_
      refine z_icmp_ge (tgt := 41) hC ((i : Nat) : Int) ((tn : Nat) : Int) d_Ix_isBroken_7 rfl (iI_t (by omega)) (iI_t (by omega)) (fun c_1 => ?_) (fun c_1 => ?_)
      · refine z_iconstN hC 0 d_Ix_isBroken_41 rfl ?_
        exact Z.eq rfl rfl rfl (zb_f (by first | exact exB_no (fun k h => hall k (by omega)) | exact exB_iff.mpr ⟨i, by omega, by unfold brk; rw [decide_eq_true (by assumption)]; simp_all⟩)) (hR _ _ d_Ix_isBroken_42)
      · refine z_aload_n hC d_Ix_isBroken_10 rfl 2 rfl ?_
        refine z_iload_n hC d_Ix_isBroken_11 rfl 0 rfl ?_
        refine z_callV (q0 := 5) (ci := 7) (w' := [(x0, .inr (3, [.ref x1, .ref x2, .ref x3, .ref x4, .int (iI ((xc : Nat) : Int))])), (x1, .inl ((g.2.1 0), 64, .inl xl)), (x2, .inl ((g.2.1 0), 8, .inl (nF xn))), (x3, .inl ((g.2.1 2), 8, .inl (bF xo))), (x4, .inl ((g.2.1 0), 9, .inl (nF ch))), (t0, .inr (7, [.ref t1, .ref t2, .ref t3, .ref t4, .int (iI ((tn : Nat) : Int))])), (t1, .inl ((g.2.1 0), 40, .inl (q1 nd))), (t2, .inl ((g.2.1 0), 40, .inl (q2 nd))), (t3, .inl ((g.2.1 0), 40, .inl (q3 nd))), (t4, .inl ((g.2.1 0), 40, .inl (q4 nd)))]) (st1 := [.int ((nd i).2.1)]) hC (k_Tr_indexAt_N l g t0 t1 t2 t3 t4 tn nd i htn (by omega)) mw_651 zv_Tr_indexAt rfl rfl ⟨Nat.le_of_ble_eq_true rfl, Nat.le_of_ble_eq_true rfl⟩ [5, 6, 7, 8, 9] rfl rfl rfl rfl rfl rfl rfl rfl (Nat.le_of_ble_eq_true rfl) d_Ix_isBroken_12 rfl ⟨Nat.zero_le _, Nat.zero_le _⟩ rfl ?_
        refine z_istore_n (lv' := [(3, .int ((nd i).2.1)), (2, .int (iI ((i : Nat) : Int))), (0, .ref x0), (1, .ref t0)]) hC d_Ix_isBroken_15 rfl (by decide) rfl ?_
        refine z_aload_n hC d_Ix_isBroken_16 rfl 2 rfl ?_
        refine z_iload_n hC d_Ix_isBroken_17 rfl 0 rfl ?_
        refine z_RI ?_
        refine z_callV (q0 := 0) (ci := 3) (w' := [(x0, .inr (3, [.ref x1, .ref x2, .ref x3, .ref x4, .int (iI ((xc : Nat) : Int))])), (x1, .inl ((g.2.1 0), 64, .inl xl)), (x2, .inl ((g.2.1 0), 8, .inl (nF xn))), (x3, .inl ((g.2.1 2), 8, .inl (bF xo))), (x4, .inl ((g.2.1 0), 9, .inl (nF ch))), (t0, .inr (7, [.ref t1, .ref t2, .ref t3, .ref t4, .int (iI ((tn : Nat) : Int))])), (t1, .inl ((g.2.1 0), 40, .inl (q1 nd))), (t2, .inl ((g.2.1 0), 40, .inl (q2 nd))), (t3, .inl ((g.2.1 0), 40, .inl (q3 nd))), (t4, .inl ((g.2.1 0), 40, .inl (q4 nd)))]) (st1 := [.int (iI (bI (decide (0 ≤ (((nd i).2.1).toInt) ∧ (((nd i).2.1).toInt) < xc))))]) hC (k_Ix_has l g x0 x1 x2 x3 x4 xc xl xn xo ch (((nd i).2.1).toInt) hxc (iI_rng _)) mw_393 zv_Ix_has rfl rfl ⟨Nat.le_of_ble_eq_true rfl, Nat.le_of_ble_eq_true rfl⟩ [0, 1, 2, 3, 4] rfl rfl rfl rfl rfl rfl rfl rfl (Nat.le_of_ble_eq_true rfl) d_Ix_isBroken_18 rfl ⟨Nat.zero_le _, Nat.zero_le _⟩ rfl ?_
        refine z_ifeqD (tgt := 35) hC d_Ix_isBroken_21 rfl (fun c_2 => ?_) (fun c_2 => ?_)
        · refine z_iincN (lv' := [(2, .int (iI ((i + 1 : Nat) : Int))), (3, .int ((nd i).2.1)), (0, .ref x0), (1, .ref t0)]) hC 1 d_Ix_isBroken_35 rfl 1 rfl (by decide) rfl ?_
          refine z_goto (tgt := 2) hC d_Ix_isBroken_38 rfl ?_
          exact Zloc [0, 2, 3] rfl (Z.eq (w' := [(x0, .inr (3, [.ref x1, .ref x2, .ref x3, .ref x4, .int (iI ((xc : Nat) : Int))])), (x1, .inl ((g.2.1 0), 64, .inl xl)), (x2, .inl ((g.2.1 0), 8, .inl (nF xn))), (x3, .inl ((g.2.1 2), 8, .inl (bF xo))), (x4, .inl ((g.2.1 0), 9, .inl (nF ch))), (t0, .inr (7, [.ref t1, .ref t2, .ref t3, .ref t4, .int (iI ((tn : Nat) : Int))])), (t1, .inl ((g.2.1 0), 40, .inl (q1 nd))), (t2, .inl ((g.2.1 0), 40, .inl (q2 nd))), (t3, .inl ((g.2.1 0), 40, .inl (q3 nd))), (t4, .inl ((g.2.1 0), 40, .inl (q4 nd)))]) rfl rfl rfl rfl (ih_2 (i + 1) (by omega) (lt_s hall (by unfold brk; first | (rw [decide_eq_false (by assumption)]; rfl) | simp_all)) (by omega)))
        · refine z_aload_n hC d_Ix_isBroken_24 rfl 2 rfl ?_
          refine z_get hC hi_Ix 0 rfl rfl 2 (by decide) mw_97 (Or.inl rfl) rfl d_Ix_isBroken_25 ?_
          refine z_iload_n hC d_Ix_isBroken_28 rfl 0 rfl ?_
          refine z_RI ?_
          refine z_zaldB hC 3 2 rfl rfl ((((nd i).2.1).toInt).toNat) (by omega) (by omega) (by decide) d_Ix_isBroken_29 ?_
          refine z_ifneB (tgt := 35) hC d_Ix_isBroken_30 rfl (fun c_3 => ?_) (fun c_3 => ?_)
          · refine z_iincN (lv' := [(2, .int (iI ((i + 1 : Nat) : Int))), (3, .int ((nd i).2.1)), (0, .ref x0), (1, .ref t0)]) hC 1 d_Ix_isBroken_35 rfl 1 rfl (by decide) rfl ?_
            refine z_goto (tgt := 2) hC d_Ix_isBroken_38 rfl ?_
            exact Zloc [0, 2, 3] rfl (Z.eq (w' := [(x0, .inr (3, [.ref x1, .ref x2, .ref x3, .ref x4, .int (iI ((xc : Nat) : Int))])), (x1, .inl ((g.2.1 0), 64, .inl xl)), (x2, .inl ((g.2.1 0), 8, .inl (nF xn))), (x3, .inl ((g.2.1 2), 8, .inl (bF xo))), (x4, .inl ((g.2.1 0), 9, .inl (nF ch))), (t0, .inr (7, [.ref t1, .ref t2, .ref t3, .ref t4, .int (iI ((tn : Nat) : Int))])), (t1, .inl ((g.2.1 0), 40, .inl (q1 nd))), (t2, .inl ((g.2.1 0), 40, .inl (q2 nd))), (t3, .inl ((g.2.1 0), 40, .inl (q3 nd))), (t4, .inl ((g.2.1 0), 40, .inl (q4 nd)))]) rfl rfl rfl rfl (ih_2 (i + 1) (by omega) (lt_s hall (by unfold brk; first | (rw [decide_eq_false (by assumption)]; rfl) | simp_all)) (by omega)))
          · refine z_iconstN hC 1 d_Ix_isBroken_33 rfl ?_
            exact Z.eq rfl rfl rfl (zb_t (by first | exact exB_no (fun k h => hall k (by omega)) | exact exB_iff.mpr ⟨i, by omega, by unfold brk; rw [decide_eq_true (by assumption)]; simp_all⟩)) (hR _ _ d_Ix_isBroken_34)
  exact Zloc [0, 1, 2] rfl (Z.eq (w' := [(x0, .inr (3, [.ref x1, .ref x2, .ref x3, .ref x4, .int (iI ((xc : Nat) : Int))])), (x1, .inl ((g.2.1 0), 64, .inl xl)), (x2, .inl ((g.2.1 0), 8, .inl (nF xn))), (x3, .inl ((g.2.1 2), 8, .inl (bF xo))), (x4, .inl ((g.2.1 0), 9, .inl (nF ch))), (t0, .inr (7, [.ref t1, .ref t2, .ref t3, .ref t4, .int (iI ((tn : Nat) : Int))])), (t1, .inl ((g.2.1 0), 40, .inl (q1 nd))), (t2, .inl ((g.2.1 0), 40, .inl (q2 nd))), (t3, .inl ((g.2.1 0), 40, .inl (q3 nd))), (t4, .inl ((g.2.1 0), 40, .inl (q4 nd)))]) rfl rfl rfl rfl (L_2 _ 0 (by omega) (fun k h => absurd h (Nat.not_lt_zero k)) (Nat.lt_succ_self _)))
set_option maxHeartbeats 4000000 in
set_option maxRecDepth 100000 in
theorem k_Ix_lengthOf (l : Launch) (g : ZG) (x0 x1 x2 x3 x4 xc : Nat) (xl : Nat → Int32) (xn : Nat → Nat) (xo : Nat → Bool) (ch : Nat → Nat) (k : Nat) (hxc : xc ≤ 8) (hk : k < xc)  : Ct l g y_Ix_lengthOf c_Ix_lengthOf 2 (some .int) { frames := 1, cells := 0, slots := 0, locals := 21 } [.ref x0, .int (iI ((k : Nat) : Int))] [(x0, .inr (3, [.ref x1, .ref x2, .ref x3, .ref x4, .int (iI ((xc : Nat) : Int))])), (x1, .inl ((g.2.1 0), 64, .inl xl)), (x2, .inl ((g.2.1 0), 8, .inl (nF xn))), (x3, .inl ((g.2.1 2), 8, .inl (bF xo))), (x4, .inl ((g.2.1 0), 9, .inl (nF ch)))] (some (.int (iI ((xn k : Nat) : Int)))) [(x0, .inr (3, [.ref x1, .ref x2, .ref x3, .ref x4, .int (iI ((xc : Nat) : Int))])), (x1, .inl ((g.2.1 0), 64, .inl xl)), (x2, .inl ((g.2.1 0), 8, .inl (nF xn))), (x3, .inl ((g.2.1 2), 8, .inl (bF xo))), (x4, .inl ((g.2.1 0), 9, .inl (nF ch)))] := by
  refine ct_i (lv := [(0, .ref x0), (1, .int (iI ((k : Nat) : Int)))]) (by decide) rfl (Nat.le_of_ble_eq_true rfl) rfl ?_
  intro x hC hR
  refine z_aload_n hC d_Ix_lengthOf_0 rfl 0 rfl ?_
  refine z_iload_n hC d_Ix_lengthOf_1 rfl 1 rfl ?_
  refine z_callV (q0 := 0) (ci := 3) (w' := [(x0, .inr (3, [.ref x1, .ref x2, .ref x3, .ref x4, .int (iI ((xc : Nat) : Int))])), (x1, .inl ((g.2.1 0), 64, .inl xl)), (x2, .inl ((g.2.1 0), 8, .inl (nF xn))), (x3, .inl ((g.2.1 2), 8, .inl (bF xo))), (x4, .inl ((g.2.1 0), 9, .inl (nF ch)))]) (st1 := [.int (iI (bI (decide (0 ≤ ((k : Nat) : Int) ∧ ((k : Nat) : Int) < xc))))]) hC (k_Ix_has l g x0 x1 x2 x3 x4 xc xl xn xo ch ((k : Nat) : Int) hxc (by omega)) mw_393 zv_Ix_has rfl rfl ⟨Nat.le_of_ble_eq_true rfl, Nat.le_of_ble_eq_true rfl⟩ [0, 1, 2, 3, 4] rfl rfl rfl rfl rfl rfl rfl rfl (Nat.le_of_ble_eq_true rfl) d_Ix_lengthOf_2 rfl ⟨Nat.zero_le _, Nat.zero_le _⟩ rfl ?_
  refine z_ifeqD (tgt := 17) hC d_Ix_lengthOf_5 rfl (fun c_1 => ?_) (fun c_1 => ?_)
  · refine z_iconstN hC 0 d_Ix_lengthOf_17 rfl ?_
    exact Z.eq rfl rfl rfl (by first | rfl | (exfalso; omega)) (hR _ _ d_Ix_lengthOf_18)
  · refine z_aload_n hC d_Ix_lengthOf_8 rfl 0 rfl ?_
    refine z_get hC hi_Ix 0 rfl rfl 1 (by decide) mw_96 (Or.inl rfl) rfl d_Ix_lengthOf_9 ?_
    refine z_iload_n hC d_Ix_lengthOf_12 rfl 1 rfl ?_
    refine z_ialdN hC 2 0 rfl rfl k rfl (by omega) (by decide) d_Ix_lengthOf_13 ?_
    refine z_goto (tgt := 18) hC d_Ix_lengthOf_14 rfl ?_
    exact Z.eq rfl rfl rfl rfl (hR _ _ d_Ix_lengthOf_18)
set_option maxHeartbeats 4000000 in
set_option maxRecDepth 100000 in
theorem k_Ix_letterOf (l : Launch) (g : ZG) (x0 x1 x2 x3 x4 xc : Nat) (xl : Nat → Int32) (xn : Nat → Nat) (xo : Nat → Bool) (ch : Nat → Nat) (k j : Nat) (hxc : xc ≤ 8) (hk : k < xc) (hj : j < 8)  : Ct l g y_Ix_letterOf c_Ix_letterOf 3 (some .int) { frames := 1, cells := 0, slots := 0, locals := 21 } [.ref x0, .int (iI ((k : Nat) : Int)), .int (iI ((j : Nat) : Int))] [(x0, .inr (3, [.ref x1, .ref x2, .ref x3, .ref x4, .int (iI ((xc : Nat) : Int))])), (x1, .inl ((g.2.1 0), 64, .inl xl)), (x2, .inl ((g.2.1 0), 8, .inl (nF xn))), (x3, .inl ((g.2.1 2), 8, .inl (bF xo))), (x4, .inl ((g.2.1 0), 9, .inl (nF ch)))] (some (.int (xl (k * 8 + j)))) [(x0, .inr (3, [.ref x1, .ref x2, .ref x3, .ref x4, .int (iI ((xc : Nat) : Int))])), (x1, .inl ((g.2.1 0), 64, .inl xl)), (x2, .inl ((g.2.1 0), 8, .inl (nF xn))), (x3, .inl ((g.2.1 2), 8, .inl (bF xo))), (x4, .inl ((g.2.1 0), 9, .inl (nF ch)))] := by
  refine ct_i (lv := [(0, .ref x0), (1, .int (iI ((k : Nat) : Int))), (2, .int (iI ((j : Nat) : Int)))]) (by decide) rfl (Nat.le_of_ble_eq_true rfl) rfl ?_
  intro x hC hR
  refine z_aload_n hC d_Ix_letterOf_0 rfl 0 rfl ?_
  refine z_iload_n hC d_Ix_letterOf_1 rfl 1 rfl ?_
  refine z_callV (q0 := 0) (ci := 3) (w' := [(x0, .inr (3, [.ref x1, .ref x2, .ref x3, .ref x4, .int (iI ((xc : Nat) : Int))])), (x1, .inl ((g.2.1 0), 64, .inl xl)), (x2, .inl ((g.2.1 0), 8, .inl (nF xn))), (x3, .inl ((g.2.1 2), 8, .inl (bF xo))), (x4, .inl ((g.2.1 0), 9, .inl (nF ch)))]) (st1 := [.int (iI (bI (decide (0 ≤ ((k : Nat) : Int) ∧ ((k : Nat) : Int) < xc))))]) hC (k_Ix_has l g x0 x1 x2 x3 x4 xc xl xn xo ch ((k : Nat) : Int) hxc (by omega)) mw_393 zv_Ix_has rfl rfl ⟨Nat.le_of_ble_eq_true rfl, Nat.le_of_ble_eq_true rfl⟩ [0, 1, 2, 3, 4] rfl rfl rfl rfl rfl rfl rfl rfl (Nat.le_of_ble_eq_true rfl) d_Ix_letterOf_2 rfl ⟨Nat.zero_le _, Nat.zero_le _⟩ rfl ?_
  refine z_ifeqD (tgt := 32) hC d_Ix_letterOf_5 rfl (fun c_1 => ?_) (fun c_1 => ?_)
  · refine z_iconst hC d_Ix_letterOf_32 ?_
    exact Z.eq rfl rfl rfl (by first | rfl | (exfalso; omega)) (hR _ _ d_Ix_letterOf_33)
  · refine z_iload_n hC d_Ix_letterOf_8 rfl 2 rfl ?_
    refine z_if_lt (tgt := 32) hC ((j : Nat) : Int) d_Ix_letterOf_9 rfl (iI_t (by omega)) (fun c_2 => ?_) (fun c_2 => ?_)
    · refine z_iconst hC d_Ix_letterOf_32 ?_
      exact Z.eq rfl rfl rfl (by first | rfl | (exfalso; omega)) (hR _ _ d_Ix_letterOf_33)
    · refine z_iload_n hC d_Ix_letterOf_12 rfl 2 rfl ?_
      refine z_bipush (a := ((8 : Nat) : Int)) hC d_Ix_letterOf_13 (by decide) ?_
      refine z_icmp_ge (tgt := 32) hC ((j : Nat) : Int) ((8 : Nat) : Int) d_Ix_letterOf_15 rfl (iI_t (by omega)) (iI_t (by omega)) (fun c_3 => ?_) (fun c_3 => ?_)
      · refine z_iconst hC d_Ix_letterOf_32 ?_
        exact Z.eq rfl rfl rfl (by first | rfl | (exfalso; omega)) (hR _ _ d_Ix_letterOf_33)
      · refine z_aload_n hC d_Ix_letterOf_18 rfl 0 rfl ?_
        refine z_get hC hi_Ix 0 rfl rfl 0 (by decide) mw_95 (Or.inl rfl) rfl d_Ix_letterOf_19 ?_
        refine z_iload_n hC d_Ix_letterOf_22 rfl 1 rfl ?_
        refine z_bipush (a := ((8 : Nat) : Int)) hC d_Ix_letterOf_23 (by decide) ?_
        refine z_imulN hC d_Ix_letterOf_25 ?_
        refine z_iload_n hC d_Ix_letterOf_26 rfl 2 rfl ?_
        refine z_iaddN hC d_Ix_letterOf_27 ?_
        refine z_iald hC 1 0 rfl rfl ((k * 8) + j) rfl (by omega) (by decide) d_Ix_letterOf_28 ?_
        refine z_goto (tgt := 33) hC d_Ix_letterOf_29 rfl ?_
        exact Z.eq rfl rfl rfl (by first | rfl | (exfalso; omega)) (hR _ _ d_Ix_letterOf_33)
set_option maxHeartbeats 4000000 in
set_option maxRecDepth 100000 in
theorem k_Ix_isNameOf (l : Launch) (g : ZG) (x0 x1 x2 x3 x4 xc : Nat) (xl : Nat → Int32) (xn : Nat → Nat) (xo : Nat → Bool) (ch : Nat → Nat) (s0 s1 sn sp : Nat) (sf : Nat → Int32) (k e : Nat) (hxc : xc ≤ 8) (hxn : ∀ j, j < xc → xn j ≤ 8) (hsn : sn ≤ 200) (hsp : sp ≤ sn) (hk : k < xc) (hpe : sp ≤ e) (hes : e ≤ sn)  : Ct l g y_Ix_isNameOf c_Ix_isNameOf 6 (some .boolean) { frames := 2, cells := 0, slots := 0, locals := 43 } [.ref x0, .int (iI ((k : Nat) : Int)), .ref s0, .int (iI ((e : Nat) : Int))] [(x0, .inr (3, [.ref x1, .ref x2, .ref x3, .ref x4, .int (iI ((xc : Nat) : Int))])), (x1, .inl ((g.2.1 0), 64, .inl xl)), (x2, .inl ((g.2.1 0), 8, .inl (nF xn))), (x3, .inl ((g.2.1 2), 8, .inl (bF xo))), (x4, .inl ((g.2.1 0), 9, .inl (nF ch))), (s0, .inr (6, [.ref s1, .int (iI ((sn : Nat) : Int)), .int (iI ((sp : Nat) : Int))])), (s1, .inl ((g.2.1 0), 200, .inl sf))] (some (.int (iI (bI (nmB xn xl sn sf sp e k))))) [(x0, .inr (3, [.ref x1, .ref x2, .ref x3, .ref x4, .int (iI ((xc : Nat) : Int))])), (x1, .inl ((g.2.1 0), 64, .inl xl)), (x2, .inl ((g.2.1 0), 8, .inl (nF xn))), (x3, .inl ((g.2.1 2), 8, .inl (bF xo))), (x4, .inl ((g.2.1 0), 9, .inl (nF ch))), (s0, .inr (6, [.ref s1, .int (iI ((sn : Nat) : Int)), .int (iI ((sp : Nat) : Int))])), (s1, .inl ((g.2.1 0), 200, .inl sf))] := by
  refine ct_z (lv := [(0, .ref x0), (1, .int (iI ((k : Nat) : Int))), (2, .ref s0), (3, .int (iI ((e : Nat) : Int)))]) (by decide) rfl (Nat.le_of_ble_eq_true rfl) rfl ?_
  intro x hC hR
  have hx8 := hxn k hk
  refine z_aload_n hC d_Ix_isNameOf_0 rfl 2 rfl ?_
  refine z_callV (q0 := 5) (ci := 6) (w' := [(x0, .inr (3, [.ref x1, .ref x2, .ref x3, .ref x4, .int (iI ((xc : Nat) : Int))])), (x1, .inl ((g.2.1 0), 64, .inl xl)), (x2, .inl ((g.2.1 0), 8, .inl (nF xn))), (x3, .inl ((g.2.1 2), 8, .inl (bF xo))), (x4, .inl ((g.2.1 0), 9, .inl (nF ch))), (s0, .inr (6, [.ref s1, .int (iI ((sn : Nat) : Int)), .int (iI ((sp : Nat) : Int))])), (s1, .inl ((g.2.1 0), 200, .inl sf))]) (st1 := [.int (iI ((sp : Nat) : Int))]) hC (k_So_place l g s0 s1 sn sp sf) mw_385 zv_So_place rfl rfl ⟨Nat.le_of_ble_eq_true rfl, Nat.le_of_ble_eq_true rfl⟩ [5, 6] rfl rfl rfl rfl rfl rfl rfl rfl (Nat.le_of_ble_eq_true rfl) d_Ix_isNameOf_1 rfl ⟨Nat.zero_le _, Nat.zero_le _⟩ rfl ?_
  refine z_istore (lv' := [(4, .int (iI ((sp : Nat) : Int))), (0, .ref x0), (1, .int (iI ((k : Nat) : Int))), (2, .ref s0), (3, .int (iI ((e : Nat) : Int)))]) hC d_Ix_isNameOf_4 (by decide) rfl ?_
  refine z_aload_n hC d_Ix_isNameOf_6 rfl 1 rfl ?_
  refine z_iload_n hC d_Ix_isNameOf_7 rfl 2 rfl ?_
  refine z_callV (q0 := 0) (ci := 3) (w' := [(x0, .inr (3, [.ref x1, .ref x2, .ref x3, .ref x4, .int (iI ((xc : Nat) : Int))])), (x1, .inl ((g.2.1 0), 64, .inl xl)), (x2, .inl ((g.2.1 0), 8, .inl (nF xn))), (x3, .inl ((g.2.1 2), 8, .inl (bF xo))), (x4, .inl ((g.2.1 0), 9, .inl (nF ch))), (s0, .inr (6, [.ref s1, .int (iI ((sn : Nat) : Int)), .int (iI ((sp : Nat) : Int))])), (s1, .inl ((g.2.1 0), 200, .inl sf))]) (st1 := [.int (iI ((xn k : Nat) : Int))]) hC (k_Ix_lengthOf l g x0 x1 x2 x3 x4 xc xl xn xo ch k hxc hk) mw_389 zv_Ix_lengthOf rfl rfl ⟨Nat.le_of_ble_eq_true rfl, Nat.le_of_ble_eq_true rfl⟩ [0, 1, 2, 3, 4] rfl rfl rfl rfl rfl rfl rfl rfl (Nat.le_of_ble_eq_true rfl) d_Ix_isNameOf_8 rfl ⟨Nat.zero_le _, Nat.zero_le _⟩ rfl ?_
  refine z_iload_n hC d_Ix_isNameOf_11 rfl 4 rfl ?_
  refine z_iload hC d_Ix_isNameOf_12 0 rfl ?_
  refine z_isubN hC d_Ix_isNameOf_14 (by omega) ?_
  refine z_icmp_eq (tgt := 20) hC ((xn k : Nat) : Int) ((e - sp : Nat) : Int) d_Ix_isNameOf_15 rfl (iI_t (by omega)) (iI_t (by omega)) (fun c_1 => ?_) (fun c_1 => ?_)
  · refine z_iconstN hC 0 d_Ix_isNameOf_20 rfl ?_
    refine z_istore (lv' := [(5, .int (iI ((0 : Nat) : Int))), (4, .int (iI ((sp : Nat) : Int))), (0, .ref x0), (1, .int (iI ((k : Nat) : Int))), (2, .ref s0), (3, .int (iI ((e : Nat) : Int)))]) hC d_Ix_isNameOf_21 (by decide) rfl ?_
    have L_23 : ∀ (fu : Nat) (j : Nat), (j ≤ xn k) → (∀ m, m < j → xl (k * 8 + m) = sN sn sf (sp + m)) → xn k - j < fu → Z x (0, 0) [(x0, .inr (3, [.ref x1, .ref x2, .ref x3, .ref x4, .int (iI ((xc : Nat) : Int))])), (x1, .inl ((g.2.1 0), 64, .inl xl)), (x2, .inl ((g.2.1 0), 8, .inl (nF xn))), (x3, .inl ((g.2.1 2), 8, .inl (bF xo))), (x4, .inl ((g.2.1 0), 9, .inl (nF ch))), (s0, .inr (6, [.ref s1, .int (iI ((sn : Nat) : Int)), .int (iI ((sp : Nat) : Int))])), (s1, .inl ((g.2.1 0), 200, .inl sf))] 23 [(5, .int (iI ((j : Nat) : Int))), (4, .int (iI ((sp : Nat) : Int))), (0, .ref x0), (1, .int (iI ((k : Nat) : Int))), (2, .ref s0), (3, .int (iI ((e : Nat) : Int)))] [] := by
      intro fu
      induction fu with
      | zero => intro j hj hall hmu; exact absurd hmu (Nat.not_lt_zero _)
      | succ fu ih_23 =>
        intro j hj hall hmu
        refine z_iload hC d_Ix_isNameOf_23 0 rfl ?_
        refine z_aload_n hC d_Ix_isNameOf_25 rfl 2 rfl ?_
        refine z_iload_n hC d_Ix_isNameOf_26 rfl 3 rfl ?_
        refine z_callV (q0 := 0) (ci := 3) (w' := [(x0, .inr (3, [.ref x1, .ref x2, .ref x3, .ref x4, .int (iI ((xc : Nat) : Int))])), (x1, .inl ((g.2.1 0), 64, .inl xl)), (x2, .inl ((g.2.1 0), 8, .inl (nF xn))), (x3, .inl ((g.2.1 2), 8, .inl (bF xo))), (x4, .inl ((g.2.1 0), 9, .inl (nF ch))), (s0, .inr (6, [.ref s1, .int (iI ((sn : Nat) : Int)), .int (iI ((sp : Nat) : Int))])), (s1, .inl ((g.2.1 0), 200, .inl sf))]) (st1 := [.int (iI ((xn k : Nat) : Int)), .int (iI ((j : Nat) : Int))]) hC (k_Ix_lengthOf l g x0 x1 x2 x3 x4 xc xl xn xo ch k hxc hk) mw_389 zv_Ix_lengthOf rfl rfl ⟨Nat.le_of_ble_eq_true rfl, Nat.le_of_ble_eq_true rfl⟩ [0, 1, 2, 3, 4] rfl rfl rfl rfl rfl rfl rfl rfl (Nat.le_of_ble_eq_true rfl) d_Ix_isNameOf_27 rfl ⟨Nat.zero_le _, Nat.zero_le _⟩ rfl ?_
        refine z_icmp_ge (tgt := 60) hC ((j : Nat) : Int) ((xn k : Nat) : Int) d_Ix_isNameOf_30 rfl (iI_t (by omega)) (iI_t (by omega)) (fun c_2 => ?_) (fun c_2 => ?_)
        · refine z_iconstN hC 1 d_Ix_isNameOf_60 rfl ?_
          exact Z.eq rfl rfl rfl (zb_t (by unfold nmB; first | (rw [Bool.and_eq_false_iff]; exact Or.inl (decide_eq_false (by omega))) | (rw [Bool.and_eq_false_iff]; exact Or.inr (allB_no (k := j) (by omega) (decide_eq_false (by assumption)))) | (rw [Bool.and_eq_true]; exact ⟨decide_eq_true (by omega), allB_iff.mpr (fun m hm => decide_eq_true (hall m (by omega)))⟩))) (hR _ _ d_Ix_isNameOf_61)
        · refine z_aload_n hC d_Ix_isNameOf_33 rfl 2 rfl ?_
          refine z_iload_n hC d_Ix_isNameOf_34 rfl 3 rfl ?_
          refine z_iload hC d_Ix_isNameOf_35 0 rfl ?_
          refine z_callV (q0 := 0) (ci := 3) (w' := [(x0, .inr (3, [.ref x1, .ref x2, .ref x3, .ref x4, .int (iI ((xc : Nat) : Int))])), (x1, .inl ((g.2.1 0), 64, .inl xl)), (x2, .inl ((g.2.1 0), 8, .inl (nF xn))), (x3, .inl ((g.2.1 2), 8, .inl (bF xo))), (x4, .inl ((g.2.1 0), 9, .inl (nF ch))), (s0, .inr (6, [.ref s1, .int (iI ((sn : Nat) : Int)), .int (iI ((sp : Nat) : Int))])), (s1, .inl ((g.2.1 0), 200, .inl sf))]) (st1 := [.int (xl (k * 8 + j))]) hC (k_Ix_letterOf l g x0 x1 x2 x3 x4 xc xl xn xo ch k j hxc hk (by omega)) mw_397 zv_Ix_letterOf rfl rfl ⟨Nat.le_of_ble_eq_true rfl, Nat.le_of_ble_eq_true rfl⟩ [0, 1, 2, 3, 4] rfl rfl rfl rfl rfl rfl rfl rfl (Nat.le_of_ble_eq_true rfl) d_Ix_isNameOf_37 rfl ⟨Nat.zero_le _, Nat.zero_le _⟩ rfl ?_
          refine z_aload_n hC d_Ix_isNameOf_40 rfl 4 rfl ?_
          refine z_iload hC d_Ix_isNameOf_41 1 rfl ?_
          refine z_iload hC d_Ix_isNameOf_43 0 rfl ?_
          refine z_iaddN hC d_Ix_isNameOf_45 ?_
          refine z_callV (q0 := 5) (ci := 6) (w' := [(x0, .inr (3, [.ref x1, .ref x2, .ref x3, .ref x4, .int (iI ((xc : Nat) : Int))])), (x1, .inl ((g.2.1 0), 64, .inl xl)), (x2, .inl ((g.2.1 0), 8, .inl (nF xn))), (x3, .inl ((g.2.1 2), 8, .inl (bF xo))), (x4, .inl ((g.2.1 0), 9, .inl (nF ch))), (s0, .inr (6, [.ref s1, .int (iI ((sn : Nat) : Int)), .int (iI ((sp : Nat) : Int))])), (s1, .inl ((g.2.1 0), 200, .inl sf))]) (st1 := [.int (sN sn sf (sp + j)), .int (xl (k * 8 + j))]) hC (k_So_signAt l g s0 s1 sn sp sf (sp + j) hsn (by omega)) mw_401 zv_So_signAt rfl rfl ⟨Nat.le_of_ble_eq_true rfl, Nat.le_of_ble_eq_true rfl⟩ [5, 6] rfl rfl rfl rfl rfl rfl rfl rfl (Nat.le_of_ble_eq_true rfl) d_Ix_isNameOf_46 rfl ⟨Nat.zero_le _, Nat.zero_le _⟩ rfl ?_
          refine z_icmp_eqR (tgt := 54) hC d_Ix_isNameOf_49 rfl (fun c_3 => ?_) (fun c_3 => ?_)
          · refine z_iincN (lv' := [(5, .int (iI ((j + 1 : Nat) : Int))), (4, .int (iI ((sp : Nat) : Int))), (0, .ref x0), (1, .int (iI ((k : Nat) : Int))), (2, .ref s0), (3, .int (iI ((e : Nat) : Int)))]) hC 1 d_Ix_isNameOf_54 rfl 0 rfl (by decide) rfl ?_
            refine z_goto (tgt := 23) hC d_Ix_isNameOf_57 rfl ?_
            exact Zloc [0, 1, 2, 3, 4, 5] rfl (Z.eq (w' := [(x0, .inr (3, [.ref x1, .ref x2, .ref x3, .ref x4, .int (iI ((xc : Nat) : Int))])), (x1, .inl ((g.2.1 0), 64, .inl xl)), (x2, .inl ((g.2.1 0), 8, .inl (nF xn))), (x3, .inl ((g.2.1 2), 8, .inl (bF xo))), (x4, .inl ((g.2.1 0), 9, .inl (nF ch))), (s0, .inr (6, [.ref s1, .int (iI ((sn : Nat) : Int)), .int (iI ((sp : Nat) : Int))])), (s1, .inl ((g.2.1 0), 200, .inl sf))]) rfl rfl rfl rfl (ih_23 (j + 1) (by omega) (lt_s hall (by assumption)) (by omega)))
          · refine z_iconstN hC 0 d_Ix_isNameOf_52 rfl ?_
            exact Z.eq rfl rfl rfl (zb_f (by unfold nmB; first | (rw [Bool.and_eq_false_iff]; exact Or.inl (decide_eq_false (by omega))) | (rw [Bool.and_eq_false_iff]; exact Or.inr (allB_no (k := j) (by omega) (decide_eq_false (by assumption)))) | (rw [Bool.and_eq_true]; exact ⟨decide_eq_true (by omega), allB_iff.mpr (fun m hm => decide_eq_true (hall m (by omega)))⟩))) (hR _ _ d_Ix_isNameOf_53)
    exact Zloc [0, 1, 2, 3, 4, 5] rfl (Z.eq (w' := [(x0, .inr (3, [.ref x1, .ref x2, .ref x3, .ref x4, .int (iI ((xc : Nat) : Int))])), (x1, .inl ((g.2.1 0), 64, .inl xl)), (x2, .inl ((g.2.1 0), 8, .inl (nF xn))), (x3, .inl ((g.2.1 2), 8, .inl (bF xo))), (x4, .inl ((g.2.1 0), 9, .inl (nF ch))), (s0, .inr (6, [.ref s1, .int (iI ((sn : Nat) : Int)), .int (iI ((sp : Nat) : Int))])), (s1, .inl ((g.2.1 0), 200, .inl sf))]) rfl rfl rfl rfl (L_23 _ 0 (by omega) (fun m h => absurd h (Nat.not_lt_zero m)) (Nat.lt_succ_self _)))
  · refine z_iconstN hC 0 d_Ix_isNameOf_18 rfl ?_
    exact Z.eq rfl rfl rfl (zb_f (by unfold nmB; first | (rw [Bool.and_eq_false_iff]; exact Or.inl (decide_eq_false (by omega))) | (rw [Bool.and_eq_false_iff]; exact Or.inr (allB_no (k := j) (by omega) (decide_eq_false (by assumption)))) | (rw [Bool.and_eq_true]; exact ⟨decide_eq_true (by omega), allB_iff.mpr (fun m hm => decide_eq_true (hall m (by omega)))⟩))) (hR _ _ d_Ix_isNameOf_19)
set_option maxHeartbeats 4000000 in
set_option maxRecDepth 100000 in
theorem k_Ix_find (l : Launch) (g : ZG) (x0 x1 x2 x3 x4 xc : Nat) (xl : Nat → Int32) (xn : Nat → Nat) (xo : Nat → Bool) (ch : Nat → Nat) (s0 s1 sn sp : Nat) (sf : Nat → Int32) (e : Nat) (hxc : xc ≤ 8) (hxn : ∀ j, j < xc → xn j ≤ 8) (hsn : sn ≤ 200) (hsp : sp ≤ sn) (hpe : sp ≤ e) (hes : e ≤ sn)  : Ct l g y_Ix_find c_Ix_find 4 (some .int) { frames := 3, cells := 0, slots := 0, locals := 68 } [.ref x0, .ref s0, .int (iI ((e : Nat) : Int))] [(x0, .inr (3, [.ref x1, .ref x2, .ref x3, .ref x4, .int (iI ((xc : Nat) : Int))])), (x1, .inl ((g.2.1 0), 64, .inl xl)), (x2, .inl ((g.2.1 0), 8, .inl (nF xn))), (x3, .inl ((g.2.1 2), 8, .inl (bF xo))), (x4, .inl ((g.2.1 0), 9, .inl (nF ch))), (s0, .inr (6, [.ref s1, .int (iI ((sn : Nat) : Int)), .int (iI ((sp : Nat) : Int))])), (s1, .inl ((g.2.1 0), 200, .inl sf))] (some (.int (iI (fnd (nmB xn xl sn sf sp e) xc 0)))) [(x0, .inr (3, [.ref x1, .ref x2, .ref x3, .ref x4, .int (iI ((xc : Nat) : Int))])), (x1, .inl ((g.2.1 0), 64, .inl xl)), (x2, .inl ((g.2.1 0), 8, .inl (nF xn))), (x3, .inl ((g.2.1 2), 8, .inl (bF xo))), (x4, .inl ((g.2.1 0), 9, .inl (nF ch))), (s0, .inr (6, [.ref s1, .int (iI ((sn : Nat) : Int)), .int (iI ((sp : Nat) : Int))])), (s1, .inl ((g.2.1 0), 200, .inl sf))] := by
  refine ct_i (lv := [(0, .ref x0), (1, .ref s0), (2, .int (iI ((e : Nat) : Int)))]) (by decide) rfl (Nat.le_of_ble_eq_true rfl) rfl ?_
  intro x hC hR
  refine z_iconstN hC 0 d_Ix_find_0 rfl ?_
  refine z_istore_n (lv' := [(3, .int (iI ((0 : Nat) : Int))), (0, .ref x0), (1, .ref s0), (2, .int (iI ((e : Nat) : Int)))]) hC d_Ix_find_1 rfl (by decide) rfl ?_
  have L_2 : ∀ (fu : Nat) (i : Nat), (i ≤ xc) → (fnd (nmB xn xl sn sf sp e) (xc - i) i = fnd (nmB xn xl sn sf sp e) xc 0) → xc - i < fu → Z x (0, 0) [(x0, .inr (3, [.ref x1, .ref x2, .ref x3, .ref x4, .int (iI ((xc : Nat) : Int))])), (x1, .inl ((g.2.1 0), 64, .inl xl)), (x2, .inl ((g.2.1 0), 8, .inl (nF xn))), (x3, .inl ((g.2.1 2), 8, .inl (bF xo))), (x4, .inl ((g.2.1 0), 9, .inl (nF ch))), (s0, .inr (6, [.ref s1, .int (iI ((sn : Nat) : Int)), .int (iI ((sp : Nat) : Int))])), (s1, .inl ((g.2.1 0), 200, .inl sf))] 2 [(3, .int (iI ((i : Nat) : Int))), (0, .ref x0), (1, .ref s0), (2, .int (iI ((e : Nat) : Int)))] [] := by
    intro fu
    induction fu with
    | zero => intro i hi hr hmu; exact absurd hmu (Nat.not_lt_zero _)
    | succ fu ih_2 =>
      intro i hi hr hmu
      refine z_iload_n hC d_Ix_find_2 rfl 0 rfl ?_
      refine z_aload_n hC d_Ix_find_3 rfl 1 rfl ?_
      refine z_get hC hi_Ix 0 rfl rfl 4 (by decide) mw_99 (Or.inl rfl) rfl d_Ix_find_4 ?_
      refine z_icmp_ge (tgt := 28) hC ((i : Nat) : Int) ((xc : Nat) : Int) d_Ix_find_7 rfl (iI_t (by omega)) (iI_t (by omega)) (fun c_1 => ?_) (fun c_1 => ?_)
      · refine z_iconst hC d_Ix_find_28 ?_
        exact Z.eq rfl rfl rfl (by first | (rw [← hr, fnd_hit (by omega) (by assumption)]) | (rw [← hr, fnd_out (by omega)])) (hR _ _ d_Ix_find_29)
      · refine z_aload_n hC d_Ix_find_10 rfl 1 rfl ?_
        refine z_iload_n hC d_Ix_find_11 rfl 0 rfl ?_
        refine z_aload_n hC d_Ix_find_12 rfl 2 rfl ?_
        refine z_iload_n hC d_Ix_find_13 rfl 3 rfl ?_
        refine z_callV (q0 := 0) (ci := 3) (w' := [(x0, .inr (3, [.ref x1, .ref x2, .ref x3, .ref x4, .int (iI ((xc : Nat) : Int))])), (x1, .inl ((g.2.1 0), 64, .inl xl)), (x2, .inl ((g.2.1 0), 8, .inl (nF xn))), (x3, .inl ((g.2.1 2), 8, .inl (bF xo))), (x4, .inl ((g.2.1 0), 9, .inl (nF ch))), (s0, .inr (6, [.ref s1, .int (iI ((sn : Nat) : Int)), .int (iI ((sp : Nat) : Int))])), (s1, .inl ((g.2.1 0), 200, .inl sf))]) (st1 := [.int (iI (bI (nmB xn xl sn sf sp e i)))]) hC (k_Ix_isNameOf l g x0 x1 x2 x3 x4 xc xl xn xo ch s0 s1 sn sp sf i e hxc hxn hsn hsp (by omega) hpe hes) mw_381 zv_Ix_isNameOf rfl rfl ⟨Nat.le_of_ble_eq_true rfl, Nat.le_of_ble_eq_true rfl⟩ [0, 1, 2, 3, 4, 5, 6] rfl rfl rfl rfl rfl rfl rfl rfl (Nat.le_of_ble_eq_true rfl) d_Ix_find_14 rfl ⟨Nat.zero_le _, Nat.zero_le _⟩ rfl ?_
        refine z_ifeqB (tgt := 22) hC d_Ix_find_17 rfl (fun c_2 => ?_) (fun c_2 => ?_)
        · refine z_iincN (lv' := [(3, .int (iI ((i + 1 : Nat) : Int))), (0, .ref x0), (1, .ref s0), (2, .int (iI ((e : Nat) : Int)))]) hC 1 d_Ix_find_22 rfl 0 rfl (by decide) rfl ?_
          refine z_goto (tgt := 2) hC d_Ix_find_25 rfl ?_
          exact Zloc [0, 1, 2, 3] rfl (Z.eq (w' := [(x0, .inr (3, [.ref x1, .ref x2, .ref x3, .ref x4, .int (iI ((xc : Nat) : Int))])), (x1, .inl ((g.2.1 0), 64, .inl xl)), (x2, .inl ((g.2.1 0), 8, .inl (nF xn))), (x3, .inl ((g.2.1 2), 8, .inl (bF xo))), (x4, .inl ((g.2.1 0), 9, .inl (nF ch))), (s0, .inr (6, [.ref s1, .int (iI ((sn : Nat) : Int)), .int (iI ((sp : Nat) : Int))])), (s1, .inl ((g.2.1 0), 200, .inl sf))]) rfl rfl rfl rfl (ih_2 (i + 1) (by omega) ((fnd_go (by omega) (by assumption)).trans hr) (by omega)))
        · refine z_iload_n hC d_Ix_find_20 rfl 0 rfl ?_
          exact Z.eq rfl rfl rfl (by first | (rw [← hr, fnd_hit (by omega) (by assumption)]) | (rw [← hr, fnd_out (by omega)])) (hR _ _ d_Ix_find_21)
  exact Zloc [0, 1, 2, 3] rfl (Z.eq (w' := [(x0, .inr (3, [.ref x1, .ref x2, .ref x3, .ref x4, .int (iI ((xc : Nat) : Int))])), (x1, .inl ((g.2.1 0), 64, .inl xl)), (x2, .inl ((g.2.1 0), 8, .inl (nF xn))), (x3, .inl ((g.2.1 2), 8, .inl (bF xo))), (x4, .inl ((g.2.1 0), 9, .inl (nF ch))), (s0, .inr (6, [.ref s1, .int (iI ((sn : Nat) : Int)), .int (iI ((sp : Nat) : Int))])), (s1, .inl ((g.2.1 0), 200, .inl sf))]) rfl rfl rfl rfl (L_2 _ 0 (by omega) rfl (Nat.lt_succ_self _)))
end
