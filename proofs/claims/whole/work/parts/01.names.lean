-- ===== PART A: goes FIRST, ahead of the names: the tables' words, and 'selects' of the private methods out of them =====
/-- a private method of a class that the tables say can be made, by its rows of tables_1 -/
def lw_okq (q : MethodName × Nat) : Prop := (q.1.cls ≠ "java/lang/invoke/MethodHandle" ∧ q.1.cls ≠ "java/lang/invoke/VarHandle") ∧ Cond.instantiable q.1.cls q.2 ∈ tables_1 ∧ Cond.privateMethod q.1 ∈ tables_1 ∧ Cond.instanceMethod q.1 ∈ tables_1
theorem lw_p0 : lw_okq (⟨"QuerySteps$Source", "spells", "(Ljava/lang/String;I)Z"⟩, 3) := ⟨⟨by decide +kernel, by decide +kernel⟩, List.mem_of_getElem? (i := 27) (by decide +kernel), List.mem_of_getElem? (i := 278) (by decide +kernel), List.mem_of_getElem? (i := 279) (by decide +kernel)⟩
theorem lw_p1 : lw_okq (⟨"QuerySteps$Indexes", "isNameOf", "(ILQuerySteps$Source;I)Z"⟩, 5) := ⟨⟨by decide +kernel, by decide +kernel⟩, List.mem_of_getElem? (i := 44) (by decide +kernel), List.mem_of_getElem? (i := 336) (by decide +kernel), List.mem_of_getElem? (i := 337) (by decide +kernel)⟩
theorem lw_p2 : lw_okq (⟨"QuerySteps$Indexes", "lengthOf", "(I)I"⟩, 5) := ⟨⟨by decide +kernel, by decide +kernel⟩, List.mem_of_getElem? (i := 44) (by decide +kernel), List.mem_of_getElem? (i := 344) (by decide +kernel), List.mem_of_getElem? (i := 345) (by decide +kernel)⟩
theorem lw_p3 : lw_okq (⟨"QuerySteps$Indexes", "letterOf", "(II)I"⟩, 5) := ⟨⟨by decide +kernel, by decide +kernel⟩, List.mem_of_getElem? (i := 44) (by decide +kernel), List.mem_of_getElem? (i := 358) (by decide +kernel), List.mem_of_getElem? (i := 359) (by decide +kernel)⟩
theorem lw_p4 : lw_okq (⟨"QuerySteps$BetweenReader", "takesTerm", "(I)Z"⟩, 4) := ⟨⟨by decide +kernel, by decide +kernel⟩, List.mem_of_getElem? (i := 102) (by decide +kernel), List.mem_of_getElem? (i := 399) (by decide +kernel), List.mem_of_getElem? (i := 400) (by decide +kernel)⟩
theorem lw_p5 : lw_okq (⟨"QuerySteps$BetweenReader", "takesValues", "(I)Z"⟩, 4) := ⟨⟨by decide +kernel, by decide +kernel⟩, List.mem_of_getElem? (i := 102) (by decide +kernel), List.mem_of_getElem? (i := 430) (by decide +kernel), List.mem_of_getElem? (i := 431) (by decide +kernel)⟩
theorem lw_p6 : lw_okq (⟨"QuerySteps$Tree", "put", "(IIIII)V"⟩, 5) := ⟨⟨by decide +kernel, by decide +kernel⟩, List.mem_of_getElem? (i := 80) (by decide +kernel), List.mem_of_getElem? (i := 446) (by decide +kernel), List.mem_of_getElem? (i := 447) (by decide +kernel)⟩
theorem lw_p7 : lw_okq (⟨"QuerySteps$Tree", "has", "(I)Z"⟩, 5) := ⟨⟨by decide +kernel, by decide +kernel⟩, List.mem_of_getElem? (i := 80) (by decide +kernel), List.mem_of_getElem? (i := 450) (by decide +kernel), List.mem_of_getElem? (i := 451) (by decide +kernel)⟩
theorem lw_p8 : lw_okq (⟨"QuerySteps$BetweenReader", "takeJoint", "(II)I"⟩, 4) := ⟨⟨by decide +kernel, by decide +kernel⟩, List.mem_of_getElem? (i := 102) (by decide +kernel), List.mem_of_getElem? (i := 462) (by decide +kernel), List.mem_of_getElem? (i := 463) (by decide +kernel)⟩
theorem lw_p9 : lw_okq (⟨"QuerySteps$Tree", "copyNode", "(ILQuerySteps$Tree;I)V"⟩, 5) := ⟨⟨by decide +kernel, by decide +kernel⟩, List.mem_of_getElem? (i := 80) (by decide +kernel), List.mem_of_getElem? (i := 472) (by decide +kernel), List.mem_of_getElem? (i := 473) (by decide +kernel)⟩
theorem lw_p10 : lw_okq (⟨"QuerySteps$FrontReader", "takesLeaf", "(I)Z"⟩, 4) := ⟨⟨by decide +kernel, by decide +kernel⟩, List.mem_of_getElem? (i := 132) (by decide +kernel), List.mem_of_getElem? (i := 498) (by decide +kernel), List.mem_of_getElem? (i := 499) (by decide +kernel)⟩
theorem lw_p11 : lw_okq (⟨"QuerySteps$FrontReader", "takesBranch", "(I)Z"⟩, 4) := ⟨⟨by decide +kernel, by decide +kernel⟩, List.mem_of_getElem? (i := 132) (by decide +kernel), List.mem_of_getElem? (i := 514) (by decide +kernel), List.mem_of_getElem? (i := 515) (by decide +kernel)⟩
theorem lw_p12 : lw_okq (⟨"QuerySteps$Indexes", "changesTo", "(ILQuerySteps$Unknown;)I"⟩, 5) := ⟨⟨by decide +kernel, by decide +kernel⟩, List.mem_of_getElem? (i := 44) (by decide +kernel), List.mem_of_getElem? (i := 549) (by decide +kernel), List.mem_of_getElem? (i := 550) (by decide +kernel)⟩
theorem lw_p13 : lw_okq (⟨"QuerySteps$Records", "has", "(I)Z"⟩, 6) := ⟨⟨by decide +kernel, by decide +kernel⟩, List.mem_of_getElem? (i := 143) (by decide +kernel), List.mem_of_getElem? (i := 569) (by decide +kernel), List.mem_of_getElem? (i := 570) (by decide +kernel)⟩
theorem lw_p14 : lw_okq (⟨"QuerySteps", "canRun", "(I)Z"⟩, 10) := ⟨⟨by decide +kernel, by decide +kernel⟩, List.mem_of_getElem? (i := 19) (by decide +kernel), List.mem_of_getElem? (i := 596) (by decide +kernel), List.mem_of_getElem? (i := 597) (by decide +kernel)⟩
theorem lw_p15 : lw_okq (⟨"QuerySteps", "isSaved", "(I)Z"⟩, 10) := ⟨⟨by decide +kernel, by decide +kernel⟩, List.mem_of_getElem? (i := 19) (by decide +kernel), List.mem_of_getElem? (i := 600) (by decide +kernel), List.mem_of_getElem? (i := 601) (by decide +kernel)⟩
def lw_privs_1 : List (MethodName × Nat) := [(⟨"QuerySteps$Source", "spells", "(Ljava/lang/String;I)Z"⟩, 3), (⟨"QuerySteps$Indexes", "isNameOf", "(ILQuerySteps$Source;I)Z"⟩, 5), (⟨"QuerySteps$Indexes", "lengthOf", "(I)I"⟩, 5), (⟨"QuerySteps$Indexes", "letterOf", "(II)I"⟩, 5), (⟨"QuerySteps$BetweenReader", "takesTerm", "(I)Z"⟩, 4), (⟨"QuerySteps$BetweenReader", "takesValues", "(I)Z"⟩, 4), (⟨"QuerySteps$Tree", "put", "(IIIII)V"⟩, 5), (⟨"QuerySteps$Tree", "has", "(I)Z"⟩, 5), (⟨"QuerySteps$BetweenReader", "takeJoint", "(II)I"⟩, 4), (⟨"QuerySteps$Tree", "copyNode", "(ILQuerySteps$Tree;I)V"⟩, 5), (⟨"QuerySteps$FrontReader", "takesLeaf", "(I)Z"⟩, 4), (⟨"QuerySteps$FrontReader", "takesBranch", "(I)Z"⟩, 4), (⟨"QuerySteps$Indexes", "changesTo", "(ILQuerySteps$Unknown;)I"⟩, 5), (⟨"QuerySteps$Records", "has", "(I)Z"⟩, 6), (⟨"QuerySteps", "canRun", "(I)Z"⟩, 10), (⟨"QuerySteps", "isSaved", "(I)Z"⟩, 10)]
theorem lw_r1 : ∀ q ∈ lw_privs_1, lw_okq q := List.forall_mem_cons.mpr ⟨lw_p0, List.forall_mem_cons.mpr ⟨lw_p1, List.forall_mem_cons.mpr ⟨lw_p2, List.forall_mem_cons.mpr ⟨lw_p3, List.forall_mem_cons.mpr ⟨lw_p4, List.forall_mem_cons.mpr ⟨lw_p5, List.forall_mem_cons.mpr ⟨lw_p6, List.forall_mem_cons.mpr ⟨lw_p7, List.forall_mem_cons.mpr ⟨lw_p8, List.forall_mem_cons.mpr ⟨lw_p9, List.forall_mem_cons.mpr ⟨lw_p10, List.forall_mem_cons.mpr ⟨lw_p11, List.forall_mem_cons.mpr ⟨lw_p12, List.forall_mem_cons.mpr ⟨lw_p13, List.forall_mem_cons.mpr ⟨lw_p14, List.forall_mem_cons.mpr ⟨lw_p15, fun _ h => absurd h List.not_mem_nil⟩⟩⟩⟩⟩⟩⟩⟩⟩⟩⟩⟩⟩⟩⟩⟩
theorem lw_p16 : lw_okq (⟨"QuerySteps$Records", "isSimpleMet", "(LQuerySteps$Tree;II)Z"⟩, 6) := ⟨⟨by decide +kernel, by decide +kernel⟩, List.mem_of_getElem? (i := 143) (by decide +kernel), List.mem_of_getElem? (i := 629) (by decide +kernel), List.mem_of_getElem? (i := 630) (by decide +kernel)⟩
theorem lw_p17 : lw_okq (⟨"QuerySteps$Hits", "insert", "(LQuerySteps$Records;I)V"⟩, 2) := ⟨⟨by decide +kernel, by decide +kernel⟩, List.mem_of_getElem? (i := 194) (by decide +kernel), List.mem_of_getElem? (i := 646) (by decide +kernel), List.mem_of_getElem? (i := 647) (by decide +kernel)⟩
theorem lw_p18 : lw_okq (⟨"QuerySteps$Tree", "isNodeLike", "(LQuerySteps$Tree;I)Z"⟩, 5) := ⟨⟨by decide +kernel, by decide +kernel⟩, List.mem_of_getElem? (i := 80) (by decide +kernel), List.mem_of_getElem? (i := 676) (by decide +kernel), List.mem_of_getElem? (i := 677) (by decide +kernel)⟩
theorem lw_p19 : lw_okq (⟨"QueryStepsModel", "letters", "(I)I"⟩, 29) := ⟨⟨by decide +kernel, by decide +kernel⟩, List.mem_of_getElem? (i := 684) (by decide +kernel), List.mem_of_getElem? (i := 786) (by decide +kernel), List.mem_of_getElem? (i := 787) (by decide +kernel)⟩
theorem lw_p20 : lw_okq (⟨"QueryStepsModel", "look", "(I)I"⟩, 29) := ⟨⟨by decide +kernel, by decide +kernel⟩, List.mem_of_getElem? (i := 684) (by decide +kernel), List.mem_of_getElem? (i := 790) (by decide +kernel), List.mem_of_getElem? (i := 791) (by decide +kernel)⟩
theorem lw_p21 : lw_okq (⟨"QueryStepsModel", "word", "(II)I"⟩, 29) := ⟨⟨by decide +kernel, by decide +kernel⟩, List.mem_of_getElem? (i := 684) (by decide +kernel), List.mem_of_getElem? (i := 797) (by decide +kernel), List.mem_of_getElem? (i := 798) (by decide +kernel)⟩
theorem lw_p22 : lw_okq (⟨"QueryStepsModel", "named", "(II)I"⟩, 29) := ⟨⟨by decide +kernel, by decide +kernel⟩, List.mem_of_getElem? (i := 684) (by decide +kernel), List.mem_of_getElem? (i := 801) (by decide +kernel), List.mem_of_getElem? (i := 802) (by decide +kernel)⟩
theorem lw_p23 : lw_okq (⟨"QueryStepsModel", "first", "()Z"⟩, 29) := ⟨⟨by decide +kernel, by decide +kernel⟩, List.mem_of_getElem? (i := 684) (by decide +kernel), List.mem_of_getElem? (i := 813) (by decide +kernel), List.mem_of_getElem? (i := 814) (by decide +kernel)⟩
theorem lw_p24 : lw_okq (⟨"QueryStepsModel", "depth", "()I"⟩, 29) := ⟨⟨by decide +kernel, by decide +kernel⟩, List.mem_of_getElem? (i := 684) (by decide +kernel), List.mem_of_getElem? (i := 817) (by decide +kernel), List.mem_of_getElem? (i := 818) (by decide +kernel)⟩
theorem lw_p25 : lw_okq (⟨"QueryStepsModel", "bad", "(I)Z"⟩, 29) := ⟨⟨by decide +kernel, by decide +kernel⟩, List.mem_of_getElem? (i := 684) (by decide +kernel), List.mem_of_getElem? (i := 821) (by decide +kernel), List.mem_of_getElem? (i := 822) (by decide +kernel)⟩
theorem lw_p26 : lw_okq (⟨"QueryStepsModel", "leaf", "()Z"⟩, 29) := ⟨⟨by decide +kernel, by decide +kernel⟩, List.mem_of_getElem? (i := 684) (by decide +kernel), List.mem_of_getElem? (i := 825) (by decide +kernel), List.mem_of_getElem? (i := 826) (by decide +kernel)⟩
theorem lw_p27 : lw_okq (⟨"QueryStepsModel", "name", "()I"⟩, 29) := ⟨⟨by decide +kernel, by decide +kernel⟩, List.mem_of_getElem? (i := 684) (by decide +kernel), List.mem_of_getElem? (i := 829) (by decide +kernel), List.mem_of_getElem? (i := 830) (by decide +kernel)⟩
theorem lw_p28 : lw_okq (⟨"QueryStepsModel", "count", "()I"⟩, 29) := ⟨⟨by decide +kernel, by decide +kernel⟩, List.mem_of_getElem? (i := 684) (by decide +kernel), List.mem_of_getElem? (i := 833) (by decide +kernel), List.mem_of_getElem? (i := 834) (by decide +kernel)⟩
theorem lw_p29 : lw_okq (⟨"QueryStepsModel", "must", "(I)Z"⟩, 29) := ⟨⟨by decide +kernel, by decide +kernel⟩, List.mem_of_getElem? (i := 684) (by decide +kernel), List.mem_of_getElem? (i := 837) (by decide +kernel), List.mem_of_getElem? (i := 838) (by decide +kernel)⟩
theorem lw_p30 : lw_okq (⟨"QueryStepsModel", "value", "()I"⟩, 29) := ⟨⟨by decide +kernel, by decide +kernel⟩, List.mem_of_getElem? (i := 684) (by decide +kernel), List.mem_of_getElem? (i := 841) (by decide +kernel), List.mem_of_getElem? (i := 842) (by decide +kernel)⟩
theorem lw_p31 : lw_okq (⟨"QueryStepsModel", "range", "(II)Z"⟩, 29) := ⟨⟨by decide +kernel, by decide +kernel⟩, List.mem_of_getElem? (i := 684) (by decide +kernel), List.mem_of_getElem? (i := 848) (by decide +kernel), List.mem_of_getElem? (i := 849) (by decide +kernel)⟩
def lw_privs_2 : List (MethodName × Nat) := [(⟨"QuerySteps$Records", "isSimpleMet", "(LQuerySteps$Tree;II)Z"⟩, 6), (⟨"QuerySteps$Hits", "insert", "(LQuerySteps$Records;I)V"⟩, 2), (⟨"QuerySteps$Tree", "isNodeLike", "(LQuerySteps$Tree;I)Z"⟩, 5), (⟨"QueryStepsModel", "letters", "(I)I"⟩, 29), (⟨"QueryStepsModel", "look", "(I)I"⟩, 29), (⟨"QueryStepsModel", "word", "(II)I"⟩, 29), (⟨"QueryStepsModel", "named", "(II)I"⟩, 29), (⟨"QueryStepsModel", "first", "()Z"⟩, 29), (⟨"QueryStepsModel", "depth", "()I"⟩, 29), (⟨"QueryStepsModel", "bad", "(I)Z"⟩, 29), (⟨"QueryStepsModel", "leaf", "()Z"⟩, 29), (⟨"QueryStepsModel", "name", "()I"⟩, 29), (⟨"QueryStepsModel", "count", "()I"⟩, 29), (⟨"QueryStepsModel", "must", "(I)Z"⟩, 29), (⟨"QueryStepsModel", "value", "()I"⟩, 29), (⟨"QueryStepsModel", "range", "(II)Z"⟩, 29)]
theorem lw_r2 : ∀ q ∈ lw_privs_2, lw_okq q := List.forall_mem_cons.mpr ⟨lw_p16, List.forall_mem_cons.mpr ⟨lw_p17, List.forall_mem_cons.mpr ⟨lw_p18, List.forall_mem_cons.mpr ⟨lw_p19, List.forall_mem_cons.mpr ⟨lw_p20, List.forall_mem_cons.mpr ⟨lw_p21, List.forall_mem_cons.mpr ⟨lw_p22, List.forall_mem_cons.mpr ⟨lw_p23, List.forall_mem_cons.mpr ⟨lw_p24, List.forall_mem_cons.mpr ⟨lw_p25, List.forall_mem_cons.mpr ⟨lw_p26, List.forall_mem_cons.mpr ⟨lw_p27, List.forall_mem_cons.mpr ⟨lw_p28, List.forall_mem_cons.mpr ⟨lw_p29, List.forall_mem_cons.mpr ⟨lw_p30, List.forall_mem_cons.mpr ⟨lw_p31, fun _ h => absurd h List.not_mem_nil⟩⟩⟩⟩⟩⟩⟩⟩⟩⟩⟩⟩⟩⟩⟩⟩
theorem lw_p32 : lw_okq (⟨"QueryStepsModel", "add", "(IIII)V"⟩, 29) := ⟨⟨by decide +kernel, by decide +kernel⟩, List.mem_of_getElem? (i := 684) (by decide +kernel), List.mem_of_getElem? (i := 852) (by decide +kernel), List.mem_of_getElem? (i := 853) (by decide +kernel)⟩
theorem lw_p33 : lw_okq (⟨"QueryStepsModel", "settle", "(I)V"⟩, 29) := ⟨⟨by decide +kernel, by decide +kernel⟩, List.mem_of_getElem? (i := 684) (by decide +kernel), List.mem_of_getElem? (i := 856) (by decide +kernel), List.mem_of_getElem? (i := 857) (by decide +kernel)⟩
theorem lw_p34 : lw_okq (⟨"QueryStepsModel", "join", "(I)V"⟩, 29) := ⟨⟨by decide +kernel, by decide +kernel⟩, List.mem_of_getElem? (i := 684) (by decide +kernel), List.mem_of_getElem? (i := 860) (by decide +kernel), List.mem_of_getElem? (i := 861) (by decide +kernel)⟩
theorem lw_p35 : lw_okq (⟨"QueryStepsModel", "second", "()Z"⟩, 29) := ⟨⟨by decide +kernel, by decide +kernel⟩, List.mem_of_getElem? (i := 684) (by decide +kernel), List.mem_of_getElem? (i := 864) (by decide +kernel), List.mem_of_getElem? (i := 865) (by decide +kernel)⟩
theorem lw_p36 : lw_okq (⟨"QueryStepsModel", "count2", "()I"⟩, 29) := ⟨⟨by decide +kernel, by decide +kernel⟩, List.mem_of_getElem? (i := 684) (by decide +kernel), List.mem_of_getElem? (i := 868) (by decide +kernel), List.mem_of_getElem? (i := 869) (by decide +kernel)⟩
theorem lw_p37 : lw_okq (⟨"QueryStepsModel", "must2", "(II)Z"⟩, 29) := ⟨⟨by decide +kernel, by decide +kernel⟩, List.mem_of_getElem? (i := 684) (by decide +kernel), List.mem_of_getElem? (i := 872) (by decide +kernel), List.mem_of_getElem? (i := 873) (by decide +kernel)⟩
theorem lw_p38 : lw_okq (⟨"QueryStepsModel", "named2", "()Z"⟩, 29) := ⟨⟨by decide +kernel, by decide +kernel⟩, List.mem_of_getElem? (i := 684) (by decide +kernel), List.mem_of_getElem? (i := 876) (by decide +kernel), List.mem_of_getElem? (i := 877) (by decide +kernel)⟩
theorem lw_p39 : lw_okq (⟨"QueryStepsModel", "lay", "()V"⟩, 29) := ⟨⟨by decide +kernel, by decide +kernel⟩, List.mem_of_getElem? (i := 684) (by decide +kernel), List.mem_of_getElem? (i := 880) (by decide +kernel), List.mem_of_getElem? (i := 881) (by decide +kernel)⟩
theorem lw_p40 : lw_okq (⟨"QueryStepsModel", "distance", "(I)I"⟩, 29) := ⟨⟨by decide +kernel, by decide +kernel⟩, List.mem_of_getElem? (i := 684) (by decide +kernel), List.mem_of_getElem? (i := 892) (by decide +kernel), List.mem_of_getElem? (i := 893) (by decide +kernel)⟩
theorem lw_p41 : lw_okq (⟨"QueryStepsModel", "isSaved", "(I)Z"⟩, 29) := ⟨⟨by decide +kernel, by decide +kernel⟩, List.mem_of_getElem? (i := 684) (by decide +kernel), List.mem_of_getElem? (i := 913) (by decide +kernel), List.mem_of_getElem? (i := 914) (by decide +kernel)⟩
theorem lw_p42 : lw_okq (⟨"QueryStepsModel", "isBroken", "(I)Z"⟩, 29) := ⟨⟨by decide +kernel, by decide +kernel⟩, List.mem_of_getElem? (i := 684) (by decide +kernel), List.mem_of_getElem? (i := 917) (by decide +kernel), List.mem_of_getElem? (i := 918) (by decide +kernel)⟩
theorem lw_p43 : lw_okq (⟨"QueryStepsModel", "finds", "(IZ)I"⟩, 29) := ⟨⟨by decide +kernel, by decide +kernel⟩, List.mem_of_getElem? (i := 684) (by decide +kernel), List.mem_of_getElem? (i := 921) (by decide +kernel), List.mem_of_getElem? (i := 922) (by decide +kernel)⟩
theorem lw_p44 : lw_okq (⟨"QueryStepsModel", "meetsAll", "(II)Z"⟩, 29) := ⟨⟨by decide +kernel, by decide +kernel⟩, List.mem_of_getElem? (i := 684) (by decide +kernel), List.mem_of_getElem? (i := 925) (by decide +kernel), List.mem_of_getElem? (i := 926) (by decide +kernel)⟩
theorem lw_p45 : lw_okq (⟨"QueryStepsModel", "has", "(II)Z"⟩, 29) := ⟨⟨by decide +kernel, by decide +kernel⟩, List.mem_of_getElem? (i := 684) (by decide +kernel), List.mem_of_getElem? (i := 929) (by decide +kernel), List.mem_of_getElem? (i := 930) (by decide +kernel)⟩
def lw_privs_3 : List (MethodName × Nat) := [(⟨"QueryStepsModel", "add", "(IIII)V"⟩, 29), (⟨"QueryStepsModel", "settle", "(I)V"⟩, 29), (⟨"QueryStepsModel", "join", "(I)V"⟩, 29), (⟨"QueryStepsModel", "second", "()Z"⟩, 29), (⟨"QueryStepsModel", "count2", "()I"⟩, 29), (⟨"QueryStepsModel", "must2", "(II)Z"⟩, 29), (⟨"QueryStepsModel", "named2", "()Z"⟩, 29), (⟨"QueryStepsModel", "lay", "()V"⟩, 29), (⟨"QueryStepsModel", "distance", "(I)I"⟩, 29), (⟨"QueryStepsModel", "isSaved", "(I)Z"⟩, 29), (⟨"QueryStepsModel", "isBroken", "(I)Z"⟩, 29), (⟨"QueryStepsModel", "finds", "(IZ)I"⟩, 29), (⟨"QueryStepsModel", "meetsAll", "(II)Z"⟩, 29), (⟨"QueryStepsModel", "has", "(II)Z"⟩, 29)]
theorem lw_r3 : ∀ q ∈ lw_privs_3, lw_okq q := List.forall_mem_cons.mpr ⟨lw_p32, List.forall_mem_cons.mpr ⟨lw_p33, List.forall_mem_cons.mpr ⟨lw_p34, List.forall_mem_cons.mpr ⟨lw_p35, List.forall_mem_cons.mpr ⟨lw_p36, List.forall_mem_cons.mpr ⟨lw_p37, List.forall_mem_cons.mpr ⟨lw_p38, List.forall_mem_cons.mpr ⟨lw_p39, List.forall_mem_cons.mpr ⟨lw_p40, List.forall_mem_cons.mpr ⟨lw_p41, List.forall_mem_cons.mpr ⟨lw_p42, List.forall_mem_cons.mpr ⟨lw_p43, List.forall_mem_cons.mpr ⟨lw_p44, List.forall_mem_cons.mpr ⟨lw_p45, fun _ h => absurd h List.not_mem_nil⟩⟩⟩⟩⟩⟩⟩⟩⟩⟩⟩⟩⟩⟩
def lw_privs : List (MethodName × Nat) := lw_privs_1 ++ (lw_privs_2 ++ (lw_privs_3))
def lw_tbl : List Cond := k2_sels lw_privs ++ tables_1
theorem lw_privs_ok : ∀ q ∈ lw_privs, lw_okq q := by
  show ∀ q ∈ lw_privs_1 ++ (lw_privs_2 ++ (lw_privs_3)), lw_okq q
  exact List.forall_mem_append.mpr ⟨lw_r1, List.forall_mem_append.mpr ⟨lw_r2, lw_r3⟩⟩
/-! ===== names, by program out of javap's listing ===== -/
def R_Bt : String := "QuerySteps$BetweenReader"
def T_Bt : u_T := fun k => match k with
  | 0 => ("QuerySteps$Reader", "source", "LQuerySteps$Source;", true)
  | 1 => ("QuerySteps$Reader", "draft", "LQuerySteps$Tree;", true)
  | 2 => ("QuerySteps$Reader", "indexes", "LQuerySteps$Indexes;", true)
  | _ => ("QuerySteps$Reader", "unknown", "LQuerySteps$Unknown;", true)
def ty_Bt : Nat → FieldType := fun k => match k with
  | 0 => .object "QuerySteps$Source"
  | 1 => .object "QuerySteps$Tree"
  | 2 => .object "QuerySteps$Indexes"
  | _ => .object "QuerySteps$Unknown"
theorem nm_Bt : ∀ a, a < 4 → ∀ b, b < 4 → a ≠ b → (T_Bt a).2.1 ≠ (T_Bt b).2.1 := by decide +kernel
theorem ok_Bt : ∀ k, k < 4 → parseFieldDescriptor (T_Bt k).2.2.1 = some (ty_Bt k) := by decide +kernel
def R_Fr : String := "QuerySteps$FrontReader"
def T_Fr : u_T := fun k => match k with
  | 0 => ("QuerySteps$Reader", "source", "LQuerySteps$Source;", true)
  | 1 => ("QuerySteps$Reader", "draft", "LQuerySteps$Tree;", true)
  | 2 => ("QuerySteps$Reader", "indexes", "LQuerySteps$Indexes;", true)
  | _ => ("QuerySteps$Reader", "unknown", "LQuerySteps$Unknown;", true)
def ty_Fr : Nat → FieldType := fun k => match k with
  | 0 => .object "QuerySteps$Source"
  | 1 => .object "QuerySteps$Tree"
  | 2 => .object "QuerySteps$Indexes"
  | _ => .object "QuerySteps$Unknown"
theorem nm_Fr : ∀ a, a < 4 → ∀ b, b < 4 → a ≠ b → (T_Fr a).2.1 ≠ (T_Fr b).2.1 := by decide +kernel
theorem ok_Fr : ∀ k, k < 4 → parseFieldDescriptor (T_Fr k).2.2.1 = some (ty_Fr k) := by decide +kernel
def R_Hi : String := "QuerySteps$Hits"
def T_Hi : u_T := fun k => match k with
  | 0 => ("QuerySteps$Hits", "numbers", "[I", true)
  | _ => ("QuerySteps$Hits", "count", "I", false)
def ty_Hi : Nat → FieldType := fun k => match k with
  | 0 => .array .int
  | _ => .int
theorem nm_Hi : ∀ a, a < 2 → ∀ b, b < 2 → a ≠ b → (T_Hi a).2.1 ≠ (T_Hi b).2.1 := by decide +kernel
theorem ok_Hi : ∀ k, k < 2 → parseFieldDescriptor (T_Hi k).2.2.1 = some (ty_Hi k) := by decide +kernel
def R_Ix : String := "QuerySteps$Indexes"
def T_Ix : u_T := fun k => match k with
  | 0 => ("QuerySteps$Indexes", "letters", "[I", true)
  | 1 => ("QuerySteps$Indexes", "lengths", "[I", true)
  | 2 => ("QuerySteps$Indexes", "isOn", "[Z", true)
  | 3 => ("QuerySteps$Indexes", "changes", "[I", true)
  | _ => ("QuerySteps$Indexes", "count", "I", false)
def ty_Ix : Nat → FieldType := fun k => match k with
  | 0 => .array .int
  | 1 => .array .int
  | 2 => .array .boolean
  | 3 => .array .int
  | _ => .int
theorem nm_Ix : ∀ a, a < 5 → ∀ b, b < 5 → a ≠ b → (T_Ix a).2.1 ≠ (T_Ix b).2.1 := by decide +kernel
theorem ok_Ix : ∀ k, k < 5 → parseFieldDescriptor (T_Ix k).2.2.1 = some (ty_Ix k) := by decide +kernel
def R_Qu : String := "QuerySteps$Question"
def T_Qu : u_T := fun k => match k with
  | 0 => ("QuerySteps$Question", "tree", "LQuerySteps$Tree;", true)
  | 1 => ("QuerySteps$Question", "isKept", "Z", false)
  | 2 => ("QuerySteps$Question", "isLookedAt", "Z", false)
  | _ => ("QuerySteps$Question", "latestMoment", "J", false)
def ty_Qu : Nat → FieldType := fun k => match k with
  | 0 => .object "QuerySteps$Tree"
  | 1 => .boolean
  | 2 => .boolean
  | _ => .long
theorem nm_Qu : ∀ a, a < 4 → ∀ b, b < 4 → a ≠ b → (T_Qu a).2.1 ≠ (T_Qu b).2.1 := by decide +kernel
theorem ok_Qu : ∀ k, k < 4 → parseFieldDescriptor (T_Qu k).2.2.1 = some (ty_Qu k) := by decide +kernel
def R_Rc : String := "QuerySteps$Records"
def T_Rc : u_T := fun k => match k with
  | 0 => ("QuerySteps$Records", "moments", "[J", true)
  | 1 => ("QuerySteps$Records", "entryCounts", "[I", true)
  | 2 => ("QuerySteps$Records", "entryIndexes", "[I", true)
  | 3 => ("QuerySteps$Records", "entryValues", "[I", true)
  | 4 => ("QuerySteps$Records", "met", "[Z", true)
  | _ => ("QuerySteps$Records", "count", "I", false)
def ty_Rc : Nat → FieldType := fun k => match k with
  | 0 => .array .long
  | 1 => .array .int
  | 2 => .array .int
  | 3 => .array .int
  | 4 => .array .boolean
  | _ => .int
theorem nm_Rc : ∀ a, a < 6 → ∀ b, b < 6 → a ≠ b → (T_Rc a).2.1 ≠ (T_Rc b).2.1 := by decide +kernel
theorem ok_Rc : ∀ k, k < 6 → parseFieldDescriptor (T_Rc k).2.2.1 = some (ty_Rc k) := by decide +kernel
def R_So : String := "QuerySteps$Source"
def T_So : u_T := fun k => match k with
  | 0 => ("QuerySteps$Source", "signs", "[I", true)
  | 1 => ("QuerySteps$Source", "length", "I", false)
  | _ => ("QuerySteps$Source", "place", "I", false)
def ty_So : Nat → FieldType := fun k => match k with
  | 0 => .array .int
  | 1 => .int
  | _ => .int
theorem nm_So : ∀ a, a < 3 → ∀ b, b < 3 → a ≠ b → (T_So a).2.1 ≠ (T_So b).2.1 := by decide +kernel
theorem ok_So : ∀ k, k < 3 → parseFieldDescriptor (T_So k).2.2.1 = some (ty_So k) := by decide +kernel
def R_Tr : String := "QuerySteps$Tree"
def T_Tr : u_T := fun k => match k with
  | 0 => ("QuerySteps$Tree", "sorts", "[I", true)
  | 1 => ("QuerySteps$Tree", "indexNumbers", "[I", true)
  | 2 => ("QuerySteps$Tree", "leasts", "[I", true)
  | 3 => ("QuerySteps$Tree", "greatests", "[I", true)
  | _ => ("QuerySteps$Tree", "size", "I", false)
def ty_Tr : Nat → FieldType := fun k => match k with
  | 0 => .array .int
  | 1 => .array .int
  | 2 => .array .int
  | 3 => .array .int
  | _ => .int
theorem nm_Tr : ∀ a, a < 5 → ∀ b, b < 5 → a ≠ b → (T_Tr a).2.1 ≠ (T_Tr b).2.1 := by decide +kernel
theorem ok_Tr : ∀ k, k < 5 → parseFieldDescriptor (T_Tr k).2.2.1 = some (ty_Tr k) := by decide +kernel
def R_Un : String := "QuerySteps$Unknown"
def T_Un : u_T := fun k => match k with
  | 0 => ("QuerySteps$Unknown", "letters", "[I", true)
  | _ => ("QuerySteps$Unknown", "length", "I", false)
def ty_Un : Nat → FieldType := fun k => match k with
  | 0 => .array .int
  | _ => .int
theorem nm_Un : ∀ a, a < 2 → ∀ b, b < 2 → a ≠ b → (T_Un a).2.1 ≠ (T_Un b).2.1 := by decide +kernel
theorem ok_Un : ∀ k, k < 2 → parseFieldDescriptor (T_Un k).2.2.1 = some (ty_Un k) := by decide +kernel
def R_QS : String := "QuerySteps"
def T_QS : u_T := fun k => match k with
  | 0 => ("QuerySteps", "source", "LQuerySteps$Source;", true)
  | 1 => ("QuerySteps", "indexes", "LQuerySteps$Indexes;", true)
  | 2 => ("QuerySteps", "unknown", "LQuerySteps$Unknown;", true)
  | 3 => ("QuerySteps", "draft", "LQuerySteps$Tree;", true)
  | 4 => ("QuerySteps", "tree", "LQuerySteps$Tree;", true)
  | 5 => ("QuerySteps", "between", "LQuerySteps$Reader;", true)
  | 6 => ("QuerySteps", "front", "LQuerySteps$Reader;", true)
  | 7 => ("QuerySteps", "records", "LQuerySteps$Records;", true)
  | 8 => ("QuerySteps", "questions", "[LQuerySteps$Question;", true)
  | _ => ("QuerySteps", "hits", "LQuerySteps$Hits;", true)
def ty_QS : Nat → FieldType := fun k => match k with
  | 0 => .object "QuerySteps$Source"
  | 1 => .object "QuerySteps$Indexes"
  | 2 => .object "QuerySteps$Unknown"
  | 3 => .object "QuerySteps$Tree"
  | 4 => .object "QuerySteps$Tree"
  | 5 => .object "QuerySteps$Reader"
  | 6 => .object "QuerySteps$Reader"
  | 7 => .object "QuerySteps$Records"
  | 8 => .array (.object "QuerySteps$Question")
  | _ => .object "QuerySteps$Hits"
theorem nm_QS : ∀ a, a < 10 → ∀ b, b < 10 → a ≠ b → (T_QS a).2.1 ≠ (T_QS b).2.1 := by decide +kernel
theorem ok_QS : ∀ k, k < 10 → parseFieldDescriptor (T_QS k).2.2.1 = some (ty_QS k) := by decide +kernel
def R_Mo : String := "QueryStepsModel"
def T_Mo : u_T := fun k => match k with
  | 0 => ("QueryStepsModel", "thrown", "I", false)
  | 1 => ("QueryStepsModel", "said", "[B", true)
  | 2 => ("QueryStepsModel", "size", "I", false)
  | 3 => ("QueryStepsModel", "at", "I", false)
  | 4 => ("QueryStepsModel", "wrong", "I", false)
  | 5 => ("QueryStepsModel", "names", "[B", true)
  | 6 => ("QueryStepsModel", "nameSizes", "[I", true)
  | 7 => ("QueryStepsModel", "off", "[Z", true)
  | 8 => ("QueryStepsModel", "indexes", "I", false)
  | 9 => ("QueryStepsModel", "strange", "[B", true)
  | 10 => ("QueryStepsModel", "strangeSize", "I", false)
  | 11 => ("QueryStepsModel", "back", "[I", true)
  | 12 => ("QueryStepsModel", "begins", "[I", true)
  | 13 => ("QueryStepsModel", "backCount", "I", false)
  | 14 => ("QueryStepsModel", "waits", "[I", true)
  | 15 => ("QueryStepsModel", "waitCount", "I", false)
  | 16 => ("QueryStepsModel", "trees", "[I", true)
  | 17 => ("QueryStepsModel", "treeSizes", "[I", true)
  | 18 => ("QueryStepsModel", "looked", "[Z", true)
  | 19 => ("QueryStepsModel", "seen", "[J", true)
  | 20 => ("QueryStepsModel", "records", "I", false)
  | 21 => ("QueryStepsModel", "moments", "[J", true)
  | 22 => ("QueryStepsModel", "entries", "[I", true)
  | 23 => ("QueryStepsModel", "entryCounts", "[I", true)
  | 24 => ("QueryStepsModel", "meets", "[Z", true)
  | 25 => ("QueryStepsModel", "hits", "[I", true)
  | 26 => ("QueryStepsModel", "hitCount", "I", false)
  | 27 => ("QueryStepsModel", "far", "[I", true)
  | _ => ("QueryStepsModel", "farNext", "[I", true)
def ty_Mo : Nat → FieldType := fun k => match k with
  | 0 => .int
  | 1 => .array .byte
  | 2 => .int
  | 3 => .int
  | 4 => .int
  | 5 => .array .byte
  | 6 => .array .int
  | 7 => .array .boolean
  | 8 => .int
  | 9 => .array .byte
  | 10 => .int
  | 11 => .array .int
  | 12 => .array .int
  | 13 => .int
  | 14 => .array .int
  | 15 => .int
  | 16 => .array .int
  | 17 => .array .int
  | 18 => .array .boolean
  | 19 => .array .long
  | 20 => .int
  | 21 => .array .long
  | 22 => .array .int
  | 23 => .array .int
  | 24 => .array .boolean
  | 25 => .array .int
  | 26 => .int
  | 27 => .array .int
  | _ => .array .int
theorem nm_Mo : ∀ a, a < 29 → ∀ b, b < 29 → a ≠ b → (T_Mo a).2.1 ≠ (T_Mo b).2.1 := by decide +kernel
theorem ok_Mo : ∀ k, k < 29 → parseFieldDescriptor (T_Mo k).2.2.1 = some (ty_Mo k) := by decide +kernel
def R_Rd : String := "QuerySteps$Reader"
def R_La : String := "QueryStepsLaw"
abbrev vwCl : List vw_C := [(R_Bt, T_Bt, 4), (R_Fr, T_Fr, 4), (R_Hi, T_Hi, 2), (R_Ix, T_Ix, 5), (R_Qu, T_Qu, 4), (R_Rc, T_Rc, 6), (R_So, T_So, 3), (R_Tr, T_Tr, 5), (R_Un, T_Un, 2), (R_QS, T_QS, 10), (R_Mo, T_Mo, 29)]
/-- the tables' words that a callee may take over -/
def zTB : List Cond := lw_tbl.filter goodWord
theorem zTB_in {w : Cond} (h : w ∈ zTB) : w ∈ lw_tbl := (List.mem_filter.mp h).1
theorem zTB_of {w : Cond} (i : Nat) (h : lw_tbl[i]? = some w) (hg : goodWord w = true) : w ∈ zTB := List.mem_filter.mpr ⟨List.mem_of_getElem? h, hg⟩
theorem zTB_good {w : Cond} (h : w ∈ zTB) : (w.onTables && w.keeps) = true ∨ ∃ ty, w = .arrayClass ty := good_of_word (List.mem_filter.mp h).2
abbrev c_QS_init : ByteArray := prog_1_method_1_code
def y_QS_init : MethodName := ⟨"QuerySteps", "<init>", "()V"⟩
abbrev c_QS_sign : ByteArray := prog_1_method_2_code
def y_QS_sign : MethodName := ⟨"QuerySteps", "sign", "(I)V"⟩
abbrev c_QS_index : ByteArray := prog_1_method_3_code
def y_QS_index : MethodName := ⟨"QuerySteps", "index", "()I"⟩
abbrev c_QS_on : ByteArray := prog_1_method_4_code
def y_QS_on : MethodName := ⟨"QuerySteps", "on", "(IZ)Z"⟩
abbrev c_QS_read : ByteArray := prog_1_method_5_code
def y_QS_read : MethodName := ⟨"QuerySteps", "read", "(I)I"⟩
abbrev c_QS_node : ByteArray := prog_1_method_6_code
def y_QS_node : MethodName := ⟨"QuerySteps", "node", "(II)I"⟩
abbrev c_QS_near : ByteArray := prog_1_method_7_code
def y_QS_near : MethodName := ⟨"QuerySteps", "near", "()I"⟩
abbrev c_QS_record : ByteArray := prog_1_method_8_code
def y_QS_record : MethodName := ⟨"QuerySteps", "record", "(J)I"⟩
abbrev c_QS_entry : ByteArray := prog_1_method_9_code
def y_QS_entry : MethodName := ⟨"QuerySteps", "entry", "(III)I"⟩
abbrev c_QS_save : ByteArray := prog_1_method_10_code
def y_QS_save : MethodName := ⟨"QuerySteps", "save", "(I)I"⟩
abbrev c_QS_run : ByteArray := prog_1_method_11_code
def y_QS_run : MethodName := ⟨"QuerySteps", "run", "(I)I"⟩
abbrev c_QS_alert : ByteArray := prog_1_method_12_code
def y_QS_alert : MethodName := ⟨"QuerySteps", "alert", "(I)I"⟩
abbrev c_QS_at : ByteArray := prog_1_method_13_code
def y_QS_at : MethodName := ⟨"QuerySteps", "at", "(I)I"⟩
abbrev c_QS_same : ByteArray := prog_1_method_14_code
def y_QS_same : MethodName := ⟨"QuerySteps", "same", "(II)Z"⟩
abbrev c_QS_broken : ByteArray := prog_1_method_15_code
def y_QS_broken : MethodName := ⟨"QuerySteps", "broken", "()I"⟩
abbrev c_QS_isSaved : ByteArray := prog_1_method_16_code
def y_QS_isSaved : MethodName := ⟨"QuerySteps", "isSaved", "(I)Z"⟩
abbrev c_QS_canRun : ByteArray := prog_1_method_17_code
def y_QS_canRun : MethodName := ⟨"QuerySteps", "canRun", "(I)Z"⟩
abbrev c_Mo_init : ByteArray := prog_13_method_1_code
def y_Mo_init : MethodName := ⟨"QueryStepsModel", "<init>", "()V"⟩
abbrev c_Mo_sign : ByteArray := prog_13_method_3_code
def y_Mo_sign : MethodName := ⟨"QueryStepsModel", "sign", "(I)V"⟩
abbrev c_Mo_look : ByteArray := prog_13_method_4_code
def y_Mo_look : MethodName := ⟨"QueryStepsModel", "look", "(I)I"⟩
abbrev c_Mo_isLetter : ByteArray := prog_13_method_5_code
def y_Mo_isLetter : MethodName := ⟨"QueryStepsModel", "isLetter", "(I)Z"⟩
abbrev c_Mo_isDigit : ByteArray := prog_13_method_6_code
def y_Mo_isDigit : MethodName := ⟨"QueryStepsModel", "isDigit", "(I)Z"⟩
abbrev c_Mo_letters : ByteArray := prog_13_method_7_code
def y_Mo_letters : MethodName := ⟨"QueryStepsModel", "letters", "(I)I"⟩
abbrev c_Mo_named : ByteArray := prog_13_method_8_code
def y_Mo_named : MethodName := ⟨"QueryStepsModel", "named", "(II)I"⟩
abbrev c_Mo_word : ByteArray := prog_13_method_9_code
def y_Mo_word : MethodName := ⟨"QueryStepsModel", "word", "(II)I"⟩
abbrev c_Mo_index : ByteArray := prog_13_method_10_code
def y_Mo_index : MethodName := ⟨"QueryStepsModel", "index", "()I"⟩
abbrev c_Mo_on : ByteArray := prog_13_method_11_code
def y_Mo_on : MethodName := ⟨"QueryStepsModel", "on", "(IZ)Z"⟩
abbrev c_Mo_bad : ByteArray := prog_13_method_12_code
def y_Mo_bad : MethodName := ⟨"QueryStepsModel", "bad", "(I)Z"⟩
abbrev c_Mo_must : ByteArray := prog_13_method_13_code
def y_Mo_must : MethodName := ⟨"QueryStepsModel", "must", "(I)Z"⟩
abbrev c_Mo_must2 : ByteArray := prog_13_method_14_code
def y_Mo_must2 : MethodName := ⟨"QueryStepsModel", "must2", "(II)Z"⟩
abbrev c_Mo_value : ByteArray := prog_13_method_15_code
def y_Mo_value : MethodName := ⟨"QueryStepsModel", "value", "()I"⟩
abbrev c_Mo_name : ByteArray := prog_13_method_16_code
def y_Mo_name : MethodName := ⟨"QueryStepsModel", "name", "()I"⟩
abbrev c_Mo_add : ByteArray := prog_13_method_17_code
def y_Mo_add : MethodName := ⟨"QueryStepsModel", "add", "(IIII)V"⟩
abbrev c_Mo_join : ByteArray := prog_13_method_18_code
def y_Mo_join : MethodName := ⟨"QueryStepsModel", "join", "(I)V"⟩
abbrev c_Mo_range : ByteArray := prog_13_method_19_code
def y_Mo_range : MethodName := ⟨"QueryStepsModel", "range", "(II)Z"⟩
abbrev c_Mo_leaf : ByteArray := prog_13_method_20_code
def y_Mo_leaf : MethodName := ⟨"QueryStepsModel", "leaf", "()Z"⟩
abbrev c_Mo_count : ByteArray := prog_13_method_21_code
def y_Mo_count : MethodName := ⟨"QueryStepsModel", "count", "()I"⟩
abbrev c_Mo_depth : ByteArray := prog_13_method_22_code
def y_Mo_depth : MethodName := ⟨"QueryStepsModel", "depth", "()I"⟩
abbrev c_Mo_settle : ByteArray := prog_13_method_23_code
def y_Mo_settle : MethodName := ⟨"QueryStepsModel", "settle", "(I)V"⟩
abbrev c_Mo_first : ByteArray := prog_13_method_24_code
def y_Mo_first : MethodName := ⟨"QueryStepsModel", "first", "()Z"⟩
abbrev c_Mo_named2 : ByteArray := prog_13_method_25_code
def y_Mo_named2 : MethodName := ⟨"QueryStepsModel", "named2", "()Z"⟩
abbrev c_Mo_second : ByteArray := prog_13_method_26_code
def y_Mo_second : MethodName := ⟨"QueryStepsModel", "second", "()Z"⟩
abbrev c_Mo_count2 : ByteArray := prog_13_method_27_code
def y_Mo_count2 : MethodName := ⟨"QueryStepsModel", "count2", "()I"⟩
abbrev c_Mo_lay : ByteArray := prog_13_method_28_code
def y_Mo_lay : MethodName := ⟨"QueryStepsModel", "lay", "()V"⟩
abbrev c_Mo_read : ByteArray := prog_13_method_29_code
def y_Mo_read : MethodName := ⟨"QueryStepsModel", "read", "(I)I"⟩
abbrev c_Mo_node : ByteArray := prog_13_method_30_code
def y_Mo_node : MethodName := ⟨"QueryStepsModel", "node", "(II)I"⟩
abbrev c_Mo_distance : ByteArray := prog_13_method_31_code
def y_Mo_distance : MethodName := ⟨"QueryStepsModel", "distance", "(I)I"⟩
abbrev c_Mo_near : ByteArray := prog_13_method_32_code
def y_Mo_near : MethodName := ⟨"QueryStepsModel", "near", "()I"⟩
abbrev c_Mo_record : ByteArray := prog_13_method_33_code
def y_Mo_record : MethodName := ⟨"QueryStepsModel", "record", "(J)I"⟩
abbrev c_Mo_entry : ByteArray := prog_13_method_34_code
def y_Mo_entry : MethodName := ⟨"QueryStepsModel", "entry", "(III)I"⟩
abbrev c_Mo_beginsWith : ByteArray := prog_13_method_35_code
def y_Mo_beginsWith : MethodName := ⟨"QueryStepsModel", "beginsWith", "(II)Z"⟩
abbrev c_Mo_has : ByteArray := prog_13_method_36_code
def y_Mo_has : MethodName := ⟨"QueryStepsModel", "has", "(II)Z"⟩
abbrev c_Mo_meetsAll : ByteArray := prog_13_method_37_code
def y_Mo_meetsAll : MethodName := ⟨"QueryStepsModel", "meetsAll", "(II)Z"⟩
abbrev c_Mo_isSaved : ByteArray := prog_13_method_38_code
def y_Mo_isSaved : MethodName := ⟨"QueryStepsModel", "isSaved", "(I)Z"⟩
abbrev c_Mo_isBroken : ByteArray := prog_13_method_39_code
def y_Mo_isBroken : MethodName := ⟨"QueryStepsModel", "isBroken", "(I)Z"⟩
abbrev c_Mo_save : ByteArray := prog_13_method_40_code
def y_Mo_save : MethodName := ⟨"QueryStepsModel", "save", "(I)I"⟩
abbrev c_Mo_finds : ByteArray := prog_13_method_41_code
def y_Mo_finds : MethodName := ⟨"QueryStepsModel", "finds", "(IZ)I"⟩
abbrev c_Mo_run : ByteArray := prog_13_method_42_code
def y_Mo_run : MethodName := ⟨"QueryStepsModel", "run", "(I)I"⟩
abbrev c_Mo_alert : ByteArray := prog_13_method_43_code
def y_Mo_alert : MethodName := ⟨"QueryStepsModel", "alert", "(I)I"⟩
abbrev c_Mo_at : ByteArray := prog_13_method_44_code
def y_Mo_at : MethodName := ⟨"QueryStepsModel", "at", "(I)I"⟩
abbrev c_Mo_same : ByteArray := prog_13_method_45_code
def y_Mo_same : MethodName := ⟨"QueryStepsModel", "same", "(II)Z"⟩
abbrev c_Mo_broken : ByteArray := prog_13_method_46_code
def y_Mo_broken : MethodName := ⟨"QueryStepsModel", "broken", "()I"⟩
abbrev c_Bt_init : ByteArray := prog_2_method_1_code
def y_Bt_init : MethodName := ⟨"QuerySteps$BetweenReader", "<init>", "(LQuerySteps$Source;LQuerySteps$Indexes;LQuerySteps$Unknown;LQuerySteps$Tree;)V"⟩
abbrev c_Bt_takesTree : ByteArray := prog_2_method_2_code
def y_Bt_takesTree : MethodName := ⟨"QuerySteps$BetweenReader", "takesTree", "(I)Z"⟩
abbrev c_Bt_takeJoint : ByteArray := prog_2_method_3_code
def y_Bt_takeJoint : MethodName := ⟨"QuerySteps$BetweenReader", "takeJoint", "(II)I"⟩
abbrev c_Bt_takesTerm : ByteArray := prog_2_method_4_code
def y_Bt_takesTerm : MethodName := ⟨"QuerySteps$BetweenReader", "takesTerm", "(I)Z"⟩
abbrev c_Bt_takesValues : ByteArray := prog_2_method_5_code
def y_Bt_takesValues : MethodName := ⟨"QuerySteps$BetweenReader", "takesValues", "(I)Z"⟩
abbrev c_Fr_init : ByteArray := prog_3_method_1_code
def y_Fr_init : MethodName := ⟨"QuerySteps$FrontReader", "<init>", "(LQuerySteps$Source;LQuerySteps$Indexes;LQuerySteps$Unknown;LQuerySteps$Tree;)V"⟩
abbrev c_Fr_takesTree : ByteArray := prog_3_method_2_code
def y_Fr_takesTree : MethodName := ⟨"QuerySteps$FrontReader", "takesTree", "(I)Z"⟩
abbrev c_Fr_takesBranch : ByteArray := prog_3_method_3_code
def y_Fr_takesBranch : MethodName := ⟨"QuerySteps$FrontReader", "takesBranch", "(I)Z"⟩
abbrev c_Fr_takesLeaf : ByteArray := prog_3_method_4_code
def y_Fr_takesLeaf : MethodName := ⟨"QuerySteps$FrontReader", "takesLeaf", "(I)Z"⟩
abbrev c_Hi_init : ByteArray := prog_4_method_1_code
def y_Hi_init : MethodName := ⟨"QuerySteps$Hits", "<init>", "()V"⟩
abbrev c_Hi_numberAt : ByteArray := prog_4_method_2_code
def y_Hi_numberAt : MethodName := ⟨"QuerySteps$Hits", "numberAt", "(I)I"⟩
abbrev c_Hi_gather : ByteArray := prog_4_method_3_code
def y_Hi_gather : MethodName := ⟨"QuerySteps$Hits", "gather", "(LQuerySteps$Records;LQuerySteps$Question;Z)I"⟩
abbrev c_Hi_insert : ByteArray := prog_4_method_4_code
def y_Hi_insert : MethodName := ⟨"QuerySteps$Hits", "insert", "(LQuerySteps$Records;I)V"⟩
abbrev c_Ix_init : ByteArray := prog_5_method_1_code
def y_Ix_init : MethodName := ⟨"QuerySteps$Indexes", "<init>", "()V"⟩
abbrev c_Ix_has : ByteArray := prog_5_method_2_code
def y_Ix_has : MethodName := ⟨"QuerySteps$Indexes", "has", "(I)Z"⟩
abbrev c_Ix_turn : ByteArray := prog_5_method_3_code
def y_Ix_turn : MethodName := ⟨"QuerySteps$Indexes", "turn", "(IZ)Z"⟩
abbrev c_Ix_isBroken : ByteArray := prog_5_method_4_code
def y_Ix_isBroken : MethodName := ⟨"QuerySteps$Indexes", "isBroken", "(LQuerySteps$Tree;)Z"⟩
abbrev c_Ix_register : ByteArray := prog_5_method_5_code
def y_Ix_register : MethodName := ⟨"QuerySteps$Indexes", "register", "(LQuerySteps$Source;)I"⟩
abbrev c_Ix_find : ByteArray := prog_5_method_6_code
def y_Ix_find : MethodName := ⟨"QuerySteps$Indexes", "find", "(LQuerySteps$Source;I)I"⟩
abbrev c_Ix_isNameOf : ByteArray := prog_5_method_7_code
def y_Ix_isNameOf : MethodName := ⟨"QuerySteps$Indexes", "isNameOf", "(ILQuerySteps$Source;I)Z"⟩
abbrev c_Ix_lengthOf : ByteArray := prog_5_method_8_code
def y_Ix_lengthOf : MethodName := ⟨"QuerySteps$Indexes", "lengthOf", "(I)I"⟩
abbrev c_Ix_letterOf : ByteArray := prog_5_method_9_code
def y_Ix_letterOf : MethodName := ⟨"QuerySteps$Indexes", "letterOf", "(II)I"⟩
abbrev c_Ix_nearest : ByteArray := prog_5_method_10_code
def y_Ix_nearest : MethodName := ⟨"QuerySteps$Indexes", "nearest", "(LQuerySteps$Unknown;)I"⟩
abbrev c_Ix_changesTo : ByteArray := prog_5_method_11_code
def y_Ix_changesTo : MethodName := ⟨"QuerySteps$Indexes", "changesTo", "(ILQuerySteps$Unknown;)I"⟩
abbrev c_Qu_init : ByteArray := prog_6_method_1_code
def y_Qu_init : MethodName := ⟨"QuerySteps$Question", "<init>", "()V"⟩
abbrev c_Qu_keep : ByteArray := prog_6_method_2_code
def y_Qu_keep : MethodName := ⟨"QuerySteps$Question", "keep", "(LQuerySteps$Tree;)V"⟩
abbrev c_Qu_lookedUpTo : ByteArray := prog_6_method_3_code
def y_Qu_lookedUpTo : MethodName := ⟨"QuerySteps$Question", "lookedUpTo", "(J)V"⟩
abbrev c_Qu_isNew : ByteArray := prog_6_method_4_code
def y_Qu_isNew : MethodName := ⟨"QuerySteps$Question", "isNew", "(J)Z"⟩
abbrev c_Rd_init : ByteArray := prog_7_method_1_code
def y_Rd_init : MethodName := ⟨"QuerySteps$Reader", "<init>", "(LQuerySteps$Source;LQuerySteps$Indexes;LQuerySteps$Unknown;LQuerySteps$Tree;)V"⟩
abbrev c_Rd_takeName : ByteArray := prog_7_method_3_code
def y_Rd_takeName : MethodName := ⟨"QuerySteps$Reader", "takeName", "()I"⟩
abbrev c_Rd_takesGreatest : ByteArray := prog_7_method_4_code
def y_Rd_takesGreatest : MethodName := ⟨"QuerySteps$Reader", "takesGreatest", "(II)Z"⟩
abbrev c_Rc_init : ByteArray := prog_8_method_1_code
def y_Rc_init : MethodName := ⟨"QuerySteps$Records", "<init>", "()V"⟩
abbrev c_Rc_size : ByteArray := prog_8_method_2_code
def y_Rc_size : MethodName := ⟨"QuerySteps$Records", "size", "()I"⟩
abbrev c_Rc_has : ByteArray := prog_8_method_3_code
def y_Rc_has : MethodName := ⟨"QuerySteps$Records", "has", "(I)Z"⟩
abbrev c_Rc_momentOf : ByteArray := prog_8_method_4_code
def y_Rc_momentOf : MethodName := ⟨"QuerySteps$Records", "momentOf", "(I)J"⟩
abbrev c_Rc_add : ByteArray := prog_8_method_5_code
def y_Rc_add : MethodName := ⟨"QuerySteps$Records", "add", "(J)I"⟩
abbrev c_Rc_addEntry : ByteArray := prog_8_method_6_code
def y_Rc_addEntry : MethodName := ⟨"QuerySteps$Records", "addEntry", "(III)I"⟩
abbrev c_Rc_isMet : ByteArray := prog_8_method_7_code
def y_Rc_isMet : MethodName := ⟨"QuerySteps$Records", "isMet", "(LQuerySteps$Tree;I)Z"⟩
abbrev c_Rc_isJoinedMet : ByteArray := prog_8_method_8_code
def y_Rc_isJoinedMet : MethodName := ⟨"QuerySteps$Records", "isJoinedMet", "(IZZ)Z"⟩
abbrev c_Rc_isSimpleMet : ByteArray := prog_8_method_9_code
def y_Rc_isSimpleMet : MethodName := ⟨"QuerySteps$Records", "isSimpleMet", "(LQuerySteps$Tree;II)Z"⟩
abbrev c_Rc_isValueMet : ByteArray := prog_8_method_10_code
def y_Rc_isValueMet : MethodName := ⟨"QuerySteps$Records", "isValueMet", "(LQuerySteps$Tree;II)Z"⟩
abbrev c_Rc_isBeginning : ByteArray := prog_8_method_11_code
def y_Rc_isBeginning : MethodName := ⟨"QuerySteps$Records", "isBeginning", "(II)Z"⟩
abbrev c_So_init : ByteArray := prog_9_method_1_code
def y_So_init : MethodName := ⟨"QuerySteps$Source", "<init>", "()V"⟩
abbrev c_So_collect : ByteArray := prog_9_method_2_code
def y_So_collect : MethodName := ⟨"QuerySteps$Source", "collect", "(I)V"⟩
abbrev c_So_clear : ByteArray := prog_9_method_3_code
def y_So_clear : MethodName := ⟨"QuerySteps$Source", "clear", "()V"⟩
abbrev c_So_length : ByteArray := prog_9_method_4_code
def y_So_length : MethodName := ⟨"QuerySteps$Source", "length", "()I"⟩
abbrev c_So_place : ByteArray := prog_9_method_5_code
def y_So_place : MethodName := ⟨"QuerySteps$Source", "place", "()I"⟩
abbrev c_So_moveTo : ByteArray := prog_9_method_6_code
def y_So_moveTo : MethodName := ⟨"QuerySteps$Source", "moveTo", "(I)V"⟩
abbrev c_So_isAtEnd : ByteArray := prog_9_method_7_code
def y_So_isAtEnd : MethodName := ⟨"QuerySteps$Source", "isAtEnd", "()Z"⟩
abbrev c_So_signAt : ByteArray := prog_9_method_8_code
def y_So_signAt : MethodName := ⟨"QuerySteps$Source", "signAt", "(I)I"⟩
abbrev c_So_take : ByteArray := prog_9_method_9_code
def y_So_take : MethodName := ⟨"QuerySteps$Source", "take", "(I)Z"⟩
abbrev c_So_rowEnd : ByteArray := prog_9_method_10_code
def y_So_rowEnd : MethodName := ⟨"QuerySteps$Source", "rowEnd", "()I"⟩
abbrev c_So_takeValue : ByteArray := prog_9_method_11_code
def y_So_takeValue : MethodName := ⟨"QuerySteps$Source", "takeValue", "()I"⟩
abbrev c_So_joiningSort : ByteArray := prog_9_method_12_code
def y_So_joiningSort : MethodName := ⟨"QuerySteps$Source", "joiningSort", "(I)I"⟩
abbrev c_So_spells : ByteArray := prog_9_method_13_code
def y_So_spells : MethodName := ⟨"QuerySteps$Source", "spells", "(Ljava/lang/String;I)Z"⟩
abbrev c_So_isSmallLetter : ByteArray := prog_9_method_14_code
def y_So_isSmallLetter : MethodName := ⟨"QuerySteps$Source", "isSmallLetter", "(I)Z"⟩
abbrev c_So_isDigit : ByteArray := prog_9_method_15_code
def y_So_isDigit : MethodName := ⟨"QuerySteps$Source", "isDigit", "(I)Z"⟩
abbrev c_Tr_init : ByteArray := prog_10_method_1_code
def y_Tr_init : MethodName := ⟨"QuerySteps$Tree", "<init>", "()V"⟩
abbrev c_Tr_clear : ByteArray := prog_10_method_2_code
def y_Tr_clear : MethodName := ⟨"QuerySteps$Tree", "clear", "()V"⟩
abbrev c_Tr_size : ByteArray := prog_10_method_3_code
def y_Tr_size : MethodName := ⟨"QuerySteps$Tree", "size", "()I"⟩
abbrev c_Tr_isFull : ByteArray := prog_10_method_4_code
def y_Tr_isFull : MethodName := ⟨"QuerySteps$Tree", "isFull", "()Z"⟩
abbrev c_Tr_has : ByteArray := prog_10_method_5_code
def y_Tr_has : MethodName := ⟨"QuerySteps$Tree", "has", "(I)Z"⟩
abbrev c_Tr_sortAt : ByteArray := prog_10_method_6_code
def y_Tr_sortAt : MethodName := ⟨"QuerySteps$Tree", "sortAt", "(I)I"⟩
abbrev c_Tr_indexAt : ByteArray := prog_10_method_7_code
def y_Tr_indexAt : MethodName := ⟨"QuerySteps$Tree", "indexAt", "(I)I"⟩
abbrev c_Tr_leastAt : ByteArray := prog_10_method_8_code
def y_Tr_leastAt : MethodName := ⟨"QuerySteps$Tree", "leastAt", "(I)I"⟩
abbrev c_Tr_greatestAt : ByteArray := prog_10_method_9_code
def y_Tr_greatestAt : MethodName := ⟨"QuerySteps$Tree", "greatestAt", "(I)I"⟩
abbrev c_Tr_append : ByteArray := prog_10_method_10_code
def y_Tr_append : MethodName := ⟨"QuerySteps$Tree", "append", "(IIII)Z"⟩
abbrev c_Tr_insert : ByteArray := prog_10_method_11_code
def y_Tr_insert : MethodName := ⟨"QuerySteps$Tree", "insert", "(II)Z"⟩
abbrev c_Tr_copyFrom : ByteArray := prog_10_method_12_code
def y_Tr_copyFrom : MethodName := ⟨"QuerySteps$Tree", "copyFrom", "(LQuerySteps$Tree;)V"⟩
abbrev c_Tr_isLike : ByteArray := prog_10_method_13_code
def y_Tr_isLike : MethodName := ⟨"QuerySteps$Tree", "isLike", "(LQuerySteps$Tree;)Z"⟩
abbrev c_Tr_isNodeLike : ByteArray := prog_10_method_14_code
def y_Tr_isNodeLike : MethodName := ⟨"QuerySteps$Tree", "isNodeLike", "(LQuerySteps$Tree;I)Z"⟩
abbrev c_Tr_copyNode : ByteArray := prog_10_method_15_code
def y_Tr_copyNode : MethodName := ⟨"QuerySteps$Tree", "copyNode", "(ILQuerySteps$Tree;I)V"⟩
abbrev c_Tr_put : ByteArray := prog_10_method_16_code
def y_Tr_put : MethodName := ⟨"QuerySteps$Tree", "put", "(IIIII)V"⟩
abbrev c_Un_init : ByteArray := prog_11_method_1_code
def y_Un_init : MethodName := ⟨"QuerySteps$Unknown", "<init>", "()V"⟩
abbrev c_Un_forget : ByteArray := prog_11_method_2_code
def y_Un_forget : MethodName := ⟨"QuerySteps$Unknown", "forget", "()V"⟩
abbrev c_Un_keep : ByteArray := prog_11_method_3_code
def y_Un_keep : MethodName := ⟨"QuerySteps$Unknown", "keep", "(LQuerySteps$Source;I)V"⟩
abbrev c_Un_length : ByteArray := prog_11_method_4_code
def y_Un_length : MethodName := ⟨"QuerySteps$Unknown", "length", "()I"⟩
abbrev c_Un_letterAt : ByteArray := prog_11_method_5_code
def y_Un_letterAt : MethodName := ⟨"QuerySteps$Unknown", "letterAt", "(I)I"⟩
