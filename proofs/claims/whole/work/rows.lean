section
/-- a private method of a class that the tables say can be made, by its rows of tables_1 -/
def lw_okq (q : MethodName × Nat) : Prop := (q.1.cls ≠ "java/lang/invoke/MethodHandle" ∧ q.1.cls ≠ "java/lang/invoke/VarHandle") ∧ Cond.instantiable q.1.cls q.2 ∈ tables_1 ∧ Cond.privateMethod q.1 ∈ tables_1 ∧ Cond.instanceMethod q.1 ∈ tables_1
theorem lw_p0 : lw_okq (⟨"PlanBranches", "branchAt", "(I)LPlanBranches$Branch;"⟩, 7) := ⟨⟨by decide +kernel, by decide +kernel⟩, List.mem_of_getElem? (i := 20) (by decide +kernel), List.mem_of_getElem? (i := 247) (by decide +kernel), List.mem_of_getElem? (i := 248) (by decide +kernel)⟩
theorem lw_p1 : lw_okq (⟨"java/lang/Throwable", "fillInStackTrace", "(I)Ljava/lang/Throwable;"⟩, 6) := ⟨⟨by decide +kernel, by decide +kernel⟩, List.mem_of_getElem? (i := 289) (by decide +kernel), List.mem_of_getElem? (i := 287) (by decide +kernel), List.mem_of_getElem? (i := 288) (by decide +kernel)⟩
theorem lw_p2 : lw_okq (⟨"PlanBranches$Joint", "joinTask", "(LPlanBranches$Plan;LPlanBranches$Plan;LPlanBranches$Plan;I)V"⟩, 3) := ⟨⟨by decide +kernel, by decide +kernel⟩, List.mem_of_getElem? (i := 153) (by decide +kernel), List.mem_of_getElem? (i := 528) (by decide +kernel), List.mem_of_getElem? (i := 529) (by decide +kernel)⟩
theorem lw_p3 : lw_okq (⟨"PlanBranches", "judge", "(LPlanBranches$Branch;LPlanBranches$Branch;LPlanBranches$Branch;)I"⟩, 7) := ⟨⟨by decide +kernel, by decide +kernel⟩, List.mem_of_getElem? (i := 20) (by decide +kernel), List.mem_of_getElem? (i := 546) (by decide +kernel), List.mem_of_getElem? (i := 547) (by decide +kernel)⟩
theorem lw_p4 : lw_okq (⟨"PlanBranches", "placeByRule", "(LPlanBranches$Plan;LPlanBranches$Branch;)V"⟩, 7) := ⟨⟨by decide +kernel, by decide +kernel⟩, List.mem_of_getElem? (i := 20) (by decide +kernel), List.mem_of_getElem? (i := 560) (by decide +kernel), List.mem_of_getElem? (i := 561) (by decide +kernel)⟩
theorem lw_p5 : lw_okq (⟨"PlanBranches$Ways", "stretch", "(LPlanBranches$Plan;I)Z"⟩, 3) := ⟨⟨by decide +kernel, by decide +kernel⟩, List.mem_of_getElem? (i := 174) (by decide +kernel), List.mem_of_getElem? (i := 568) (by decide +kernel), List.mem_of_getElem? (i := 569) (by decide +kernel)⟩
theorem lw_p6 : lw_okq (⟨"PlanBranches$Schedule", "nextByTails", "(LPlanBranches$Plan;I[I)I"⟩, 3) := ⟨⟨by decide +kernel, by decide +kernel⟩, List.mem_of_getElem? (i := 192) (by decide +kernel), List.mem_of_getElem? (i := 592) (by decide +kernel), List.mem_of_getElem? (i := 593) (by decide +kernel)⟩
theorem lw_p7 : lw_okq (⟨"PlanBranches$Schedule", "ready", "(LPlanBranches$Plan;II)Z"⟩, 3) := ⟨⟨by decide +kernel, by decide +kernel⟩, List.mem_of_getElem? (i := 192) (by decide +kernel), List.mem_of_getElem? (i := 596) (by decide +kernel), List.mem_of_getElem? (i := 597) (by decide +kernel)⟩
theorem lw_p8 : lw_okq (⟨"PlanBranches$Schedule", "earliest", "(LPlanBranches$Plan;I)I"⟩, 3) := ⟨⟨by decide +kernel, by decide +kernel⟩, List.mem_of_getElem? (i := 192) (by decide +kernel), List.mem_of_getElem? (i := 601) (by decide +kernel), List.mem_of_getElem? (i := 602) (by decide +kernel)⟩
theorem lw_p9 : lw_okq (⟨"PlanBranches$Schedule", "dayBehindNeeds", "(LPlanBranches$Plan;I)I"⟩, 3) := ⟨⟨by decide +kernel, by decide +kernel⟩, List.mem_of_getElem? (i := 192) (by decide +kernel), List.mem_of_getElem? (i := 605) (by decide +kernel), List.mem_of_getElem? (i := 606) (by decide +kernel)⟩
theorem lw_p10 : lw_okq (⟨"PlanBranches$Schedule", "place", "(LPlanBranches$Plan;II)V"⟩, 3) := ⟨⟨by decide +kernel, by decide +kernel⟩, List.mem_of_getElem? (i := 192) (by decide +kernel), List.mem_of_getElem? (i := 610) (by decide +kernel), List.mem_of_getElem? (i := 611) (by decide +kernel)⟩
theorem lw_p11 : lw_okq (⟨"PlanBranches$Schedule", "markWork", "(LPlanBranches$Plan;III)V"⟩, 3) := ⟨⟨by decide +kernel, by decide +kernel⟩, List.mem_of_getElem? (i := 192) (by decide +kernel), List.mem_of_getElem? (i := 614) (by decide +kernel), List.mem_of_getElem? (i := 615) (by decide +kernel)⟩
theorem lw_p12 : lw_okq (⟨"PlanBranches$Schedule", "takeBack", "(LPlanBranches$Plan;II)V"⟩, 3) := ⟨⟨by decide +kernel, by decide +kernel⟩, List.mem_of_getElem? (i := 192) (by decide +kernel), List.mem_of_getElem? (i := 761) (by decide +kernel), List.mem_of_getElem? (i := 762) (by decide +kernel)⟩
theorem lw_p13 : lw_okq (⟨"PlanBranchesModel", "isBranch", "(I)Z"⟩, 28) := ⟨⟨by decide +kernel, by decide +kernel⟩, List.mem_of_getElem? (i := 773) (by decide +kernel), List.mem_of_getElem? (i := 880) (by decide +kernel), List.mem_of_getElem? (i := 881) (by decide +kernel)⟩
theorem lw_p14 : lw_okq (⟨"PlanBranchesModel", "isFine", "(I)Z"⟩, 28) := ⟨⟨by decide +kernel, by decide +kernel⟩, List.mem_of_getElem? (i := 773) (by decide +kernel), List.mem_of_getElem? (i := 884) (by decide +kernel), List.mem_of_getElem? (i := 885) (by decide +kernel)⟩
theorem lw_p15 : lw_okq (⟨"PlanBranchesModel", "keeps", "(II)V"⟩, 28) := ⟨⟨by decide +kernel, by decide +kernel⟩, List.mem_of_getElem? (i := 773) (by decide +kernel), List.mem_of_getElem? (i := 888) (by decide +kernel), List.mem_of_getElem? (i := 889) (by decide +kernel)⟩
def lw_privs_1 : List (MethodName × Nat) := [(⟨"PlanBranches", "branchAt", "(I)LPlanBranches$Branch;"⟩, 7), (⟨"java/lang/Throwable", "fillInStackTrace", "(I)Ljava/lang/Throwable;"⟩, 6), (⟨"PlanBranches$Joint", "joinTask", "(LPlanBranches$Plan;LPlanBranches$Plan;LPlanBranches$Plan;I)V"⟩, 3), (⟨"PlanBranches", "judge", "(LPlanBranches$Branch;LPlanBranches$Branch;LPlanBranches$Branch;)I"⟩, 7), (⟨"PlanBranches", "placeByRule", "(LPlanBranches$Plan;LPlanBranches$Branch;)V"⟩, 7), (⟨"PlanBranches$Ways", "stretch", "(LPlanBranches$Plan;I)Z"⟩, 3), (⟨"PlanBranches$Schedule", "nextByTails", "(LPlanBranches$Plan;I[I)I"⟩, 3), (⟨"PlanBranches$Schedule", "ready", "(LPlanBranches$Plan;II)Z"⟩, 3), (⟨"PlanBranches$Schedule", "earliest", "(LPlanBranches$Plan;I)I"⟩, 3), (⟨"PlanBranches$Schedule", "dayBehindNeeds", "(LPlanBranches$Plan;I)I"⟩, 3), (⟨"PlanBranches$Schedule", "place", "(LPlanBranches$Plan;II)V"⟩, 3), (⟨"PlanBranches$Schedule", "markWork", "(LPlanBranches$Plan;III)V"⟩, 3), (⟨"PlanBranches$Schedule", "takeBack", "(LPlanBranches$Plan;II)V"⟩, 3), (⟨"PlanBranchesModel", "isBranch", "(I)Z"⟩, 28), (⟨"PlanBranchesModel", "isFine", "(I)Z"⟩, 28), (⟨"PlanBranchesModel", "keeps", "(II)V"⟩, 28)]
theorem lw_r1 : ∀ q ∈ lw_privs_1, lw_okq q := List.forall_mem_cons.mpr ⟨lw_p0, List.forall_mem_cons.mpr ⟨lw_p1, List.forall_mem_cons.mpr ⟨lw_p2, List.forall_mem_cons.mpr ⟨lw_p3, List.forall_mem_cons.mpr ⟨lw_p4, List.forall_mem_cons.mpr ⟨lw_p5, List.forall_mem_cons.mpr ⟨lw_p6, List.forall_mem_cons.mpr ⟨lw_p7, List.forall_mem_cons.mpr ⟨lw_p8, List.forall_mem_cons.mpr ⟨lw_p9, List.forall_mem_cons.mpr ⟨lw_p10, List.forall_mem_cons.mpr ⟨lw_p11, List.forall_mem_cons.mpr ⟨lw_p12, List.forall_mem_cons.mpr ⟨lw_p13, List.forall_mem_cons.mpr ⟨lw_p14, List.forall_mem_cons.mpr ⟨lw_p15, fun _ h => absurd h List.not_mem_nil⟩⟩⟩⟩⟩⟩⟩⟩⟩⟩⟩⟩⟩⟩⟩⟩
theorem lw_p16 : lw_okq (⟨"PlanBranchesModel", "isThere", "(II)Z"⟩, 28) := ⟨⟨by decide +kernel, by decide +kernel⟩, List.mem_of_getElem? (i := 773) (by decide +kernel), List.mem_of_getElem? (i := 895) (by decide +kernel), List.mem_of_getElem? (i := 896) (by decide +kernel)⟩
theorem lw_p17 : lw_okq (⟨"PlanBranchesModel", "lays", "(IIIIII)V"⟩, 28) := ⟨⟨by decide +kernel, by decide +kernel⟩, List.mem_of_getElem? (i := 773) (by decide +kernel), List.mem_of_getElem? (i := 899) (by decide +kernel), List.mem_of_getElem? (i := 900) (by decide +kernel)⟩
theorem lw_p18 : lw_okq (⟨"PlanBranchesModel", "isNeeded", "(II)Z"⟩, 28) := ⟨⟨by decide +kernel, by decide +kernel⟩, List.mem_of_getElem? (i := 773) (by decide +kernel), List.mem_of_getElem? (i := 907) (by decide +kernel), List.mem_of_getElem? (i := 908) (by decide +kernel)⟩
theorem lw_p19 : lw_okq (⟨"PlanBranchesModel", "doesNeed", "(III)Z"⟩, 28) := ⟨⟨by decide +kernel, by decide +kernel⟩, List.mem_of_getElem? (i := 773) (by decide +kernel), List.mem_of_getElem? (i := 911) (by decide +kernel), List.mem_of_getElem? (i := 912) (by decide +kernel)⟩
theorem lw_p20 : lw_okq (⟨"PlanBranchesModel", "allNeeds", "(II)I"⟩, 28) := ⟨⟨by decide +kernel, by decide +kernel⟩, List.mem_of_getElem? (i := 773) (by decide +kernel), List.mem_of_getElem? (i := 919) (by decide +kernel), List.mem_of_getElem? (i := 920) (by decide +kernel)⟩
theorem lw_p21 : lw_okq (⟨"PlanBranchesModel", "tasks0", "(I)I"⟩, 28) := ⟨⟨by decide +kernel, by decide +kernel⟩, List.mem_of_getElem? (i := 773) (by decide +kernel), List.mem_of_getElem? (i := 931) (by decide +kernel), List.mem_of_getElem? (i := 932) (by decide +kernel)⟩
theorem lw_p22 : lw_okq (⟨"PlanBranchesModel", "asks", "(II)Z"⟩, 28) := ⟨⟨by decide +kernel, by decide +kernel⟩, List.mem_of_getElem? (i := 773) (by decide +kernel), List.mem_of_getElem? (i := 939) (by decide +kernel), List.mem_of_getElem? (i := 940) (by decide +kernel)⟩
theorem lw_p23 : lw_okq (⟨"PlanBranchesModel", "cost0", "(I)I"⟩, 28) := ⟨⟨by decide +kernel, by decide +kernel⟩, List.mem_of_getElem? (i := 773) (by decide +kernel), List.mem_of_getElem? (i := 955) (by decide +kernel), List.mem_of_getElem? (i := 956) (by decide +kernel)⟩
theorem lw_p24 : lw_okq (⟨"PlanBranchesModel", "copies", "(II)V"⟩, 28) := ⟨⟨by decide +kernel, by decide +kernel⟩, List.mem_of_getElem? (i := 773) (by decide +kernel), List.mem_of_getElem? (i := 963) (by decide +kernel), List.mem_of_getElem? (i := 964) (by decide +kernel)⟩
theorem lw_p25 : lw_okq (⟨"PlanBranchesModel", "copiesTask", "(III)V"⟩, 28) := ⟨⟨by decide +kernel, by decide +kernel⟩, List.mem_of_getElem? (i := 773) (by decide +kernel), List.mem_of_getElem? (i := 967) (by decide +kernel), List.mem_of_getElem? (i := 968) (by decide +kernel)⟩
theorem lw_p26 : lw_okq (⟨"PlanBranchesModel", "forgets", "(I)V"⟩, 28) := ⟨⟨by decide +kernel, by decide +kernel⟩, List.mem_of_getElem? (i := 773) (by decide +kernel), List.mem_of_getElem? (i := 971) (by decide +kernel), List.mem_of_getElem? (i := 972) (by decide +kernel)⟩
theorem lw_p27 : lw_okq (⟨"PlanBranchesModel", "joins", "(I)I"⟩, 28) := ⟨⟨by decide +kernel, by decide +kernel⟩, List.mem_of_getElem? (i := 773) (by decide +kernel), List.mem_of_getElem? (i := 995) (by decide +kernel), List.mem_of_getElem? (i := 996) (by decide +kernel)⟩
theorem lw_p28 : lw_okq (⟨"PlanBranchesModel", "joinsTask", "(IIII)Z"⟩, 28) := ⟨⟨by decide +kernel, by decide +kernel⟩, List.mem_of_getElem? (i := 773) (by decide +kernel), List.mem_of_getElem? (i := 999) (by decide +kernel), List.mem_of_getElem? (i := 1000) (by decide +kernel)⟩
theorem lw_p29 : lw_okq (⟨"PlanBranchesModel", "isSame", "(III)Z"⟩, 28) := ⟨⟨by decide +kernel, by decide +kernel⟩, List.mem_of_getElem? (i := 773) (by decide +kernel), List.mem_of_getElem? (i := 1003) (by decide +kernel), List.mem_of_getElem? (i := 1004) (by decide +kernel)⟩
theorem lw_p30 : lw_okq (⟨"PlanBranchesModel", "mixes", "(IIII)Z"⟩, 28) := ⟨⟨by decide +kernel, by decide +kernel⟩, List.mem_of_getElem? (i := 773) (by decide +kernel), List.mem_of_getElem? (i := 1007) (by decide +kernel), List.mem_of_getElem? (i := 1008) (by decide +kernel)⟩
theorem lw_p31 : lw_okq (⟨"PlanBranchesModel", "isOwn", "(I)Z"⟩, 28) := ⟨⟨by decide +kernel, by decide +kernel⟩, List.mem_of_getElem? (i := 773) (by decide +kernel), List.mem_of_getElem? (i := 1021) (by decide +kernel), List.mem_of_getElem? (i := 1022) (by decide +kernel)⟩
def lw_privs_2 : List (MethodName × Nat) := [(⟨"PlanBranchesModel", "isThere", "(II)Z"⟩, 28), (⟨"PlanBranchesModel", "lays", "(IIIIII)V"⟩, 28), (⟨"PlanBranchesModel", "isNeeded", "(II)Z"⟩, 28), (⟨"PlanBranchesModel", "doesNeed", "(III)Z"⟩, 28), (⟨"PlanBranchesModel", "allNeeds", "(II)I"⟩, 28), (⟨"PlanBranchesModel", "tasks0", "(I)I"⟩, 28), (⟨"PlanBranchesModel", "asks", "(II)Z"⟩, 28), (⟨"PlanBranchesModel", "cost0", "(I)I"⟩, 28), (⟨"PlanBranchesModel", "copies", "(II)V"⟩, 28), (⟨"PlanBranchesModel", "copiesTask", "(III)V"⟩, 28), (⟨"PlanBranchesModel", "forgets", "(I)V"⟩, 28), (⟨"PlanBranchesModel", "joins", "(I)I"⟩, 28), (⟨"PlanBranchesModel", "joinsTask", "(IIII)Z"⟩, 28), (⟨"PlanBranchesModel", "isSame", "(III)Z"⟩, 28), (⟨"PlanBranchesModel", "mixes", "(IIII)Z"⟩, 28), (⟨"PlanBranchesModel", "isOwn", "(I)Z"⟩, 28)]
theorem lw_r2 : ∀ q ∈ lw_privs_2, lw_okq q := List.forall_mem_cons.mpr ⟨lw_p16, List.forall_mem_cons.mpr ⟨lw_p17, List.forall_mem_cons.mpr ⟨lw_p18, List.forall_mem_cons.mpr ⟨lw_p19, List.forall_mem_cons.mpr ⟨lw_p20, List.forall_mem_cons.mpr ⟨lw_p21, List.forall_mem_cons.mpr ⟨lw_p22, List.forall_mem_cons.mpr ⟨lw_p23, List.forall_mem_cons.mpr ⟨lw_p24, List.forall_mem_cons.mpr ⟨lw_p25, List.forall_mem_cons.mpr ⟨lw_p26, List.forall_mem_cons.mpr ⟨lw_p27, List.forall_mem_cons.mpr ⟨lw_p28, List.forall_mem_cons.mpr ⟨lw_p29, List.forall_mem_cons.mpr ⟨lw_p30, List.forall_mem_cons.mpr ⟨lw_p31, fun _ h => absurd h List.not_mem_nil⟩⟩⟩⟩⟩⟩⟩⟩⟩⟩⟩⟩⟩⟩⟩⟩
theorem lw_p32 : lw_okq (⟨"PlanBranchesModel", "reasonNow", "(IZ)I"⟩, 28) := ⟨⟨by decide +kernel, by decide +kernel⟩, List.mem_of_getElem? (i := 773) (by decide +kernel), List.mem_of_getElem? (i := 1025) (by decide +kernel), List.mem_of_getElem? (i := 1026) (by decide +kernel)⟩
theorem lw_p33 : lw_okq (⟨"PlanBranchesModel", "missing", "()I"⟩, 28) := ⟨⟨by decide +kernel, by decide +kernel⟩, List.mem_of_getElem? (i := 773) (by decide +kernel), List.mem_of_getElem? (i := 1029) (by decide +kernel), List.mem_of_getElem? (i := 1030) (by decide +kernel)⟩
theorem lw_p34 : lw_okq (⟨"PlanBranchesModel", "rings", "()I"⟩, 28) := ⟨⟨by decide +kernel, by decide +kernel⟩, List.mem_of_getElem? (i := 773) (by decide +kernel), List.mem_of_getElem? (i := 1033) (by decide +kernel), List.mem_of_getElem? (i := 1034) (by decide +kernel)⟩
theorem lw_p35 : lw_okq (⟨"PlanBranchesModel", "unplaced", "(II)I"⟩, 28) := ⟨⟨by decide +kernel, by decide +kernel⟩, List.mem_of_getElem? (i := 773) (by decide +kernel), List.mem_of_getElem? (i := 1037) (by decide +kernel), List.mem_of_getElem? (i := 1038) (by decide +kernel)⟩
theorem lw_p36 : lw_okq (⟨"PlanBranchesModel", "goes", "(I)I"⟩, 28) := ⟨⟨by decide +kernel, by decide +kernel⟩, List.mem_of_getElem? (i := 773) (by decide +kernel), List.mem_of_getElem? (i := 1041) (by decide +kernel), List.mem_of_getElem? (i := 1042) (by decide +kernel)⟩
theorem lw_p37 : lw_okq (⟨"PlanBranchesModel", "clears", "()V"⟩, 28) := ⟨⟨by decide +kernel, by decide +kernel⟩, List.mem_of_getElem? (i := 773) (by decide +kernel), List.mem_of_getElem? (i := 1045) (by decide +kernel), List.mem_of_getElem? (i := 1046) (by decide +kernel)⟩
theorem lw_p38 : lw_okq (⟨"PlanBranchesModel", "finds", "(I)V"⟩, 28) := ⟨⟨by decide +kernel, by decide +kernel⟩, List.mem_of_getElem? (i := 773) (by decide +kernel), List.mem_of_getElem? (i := 1049) (by decide +kernel), List.mem_of_getElem? (i := 1050) (by decide +kernel)⟩
theorem lw_p39 : lw_okq (⟨"PlanBranchesModel", "holds", "(II)I"⟩, 28) := ⟨⟨by decide +kernel, by decide +kernel⟩, List.mem_of_getElem? (i := 773) (by decide +kernel), List.mem_of_getElem? (i := 1053) (by decide +kernel), List.mem_of_getElem? (i := 1054) (by decide +kernel)⟩
theorem lw_p40 : lw_okq (⟨"PlanBranchesModel", "isReady", "(II)Z"⟩, 28) := ⟨⟨by decide +kernel, by decide +kernel⟩, List.mem_of_getElem? (i := 773) (by decide +kernel), List.mem_of_getElem? (i := 1057) (by decide +kernel), List.mem_of_getElem? (i := 1058) (by decide +kernel)⟩
theorem lw_p41 : lw_okq (⟨"PlanBranchesModel", "places", "(II)I"⟩, 28) := ⟨⟨by decide +kernel, by decide +kernel⟩, List.mem_of_getElem? (i := 773) (by decide +kernel), List.mem_of_getElem? (i := 1061) (by decide +kernel), List.mem_of_getElem? (i := 1062) (by decide +kernel)⟩
theorem lw_p42 : lw_okq (⟨"PlanBranchesModel", "becomes", "(I)I"⟩, 28) := ⟨⟨by decide +kernel, by decide +kernel⟩, List.mem_of_getElem? (i := 773) (by decide +kernel), List.mem_of_getElem? (i := 1076) (by decide +kernel), List.mem_of_getElem? (i := 1077) (by decide +kernel)⟩
theorem lw_p43 : lw_okq (⟨"PlanBranchesModel", "last", "(I)I"⟩, 28) := ⟨⟨by decide +kernel, by decide +kernel⟩, List.mem_of_getElem? (i := 773) (by decide +kernel), List.mem_of_getElem? (i := 1130) (by decide +kernel), List.mem_of_getElem? (i := 1131) (by decide +kernel)⟩
theorem lw_p44 : lw_okq (⟨"PlanBranchesModel", "byOrder", "(II)I"⟩, 28) := ⟨⟨by decide +kernel, by decide +kernel⟩, List.mem_of_getElem? (i := 773) (by decide +kernel), List.mem_of_getElem? (i := 1141) (by decide +kernel), List.mem_of_getElem? (i := 1142) (by decide +kernel)⟩
theorem lw_p45 : lw_okq (⟨"PlanBranchesModel", "turns", "(I)Z"⟩, 28) := ⟨⟨by decide +kernel, by decide +kernel⟩, List.mem_of_getElem? (i := 773) (by decide +kernel), List.mem_of_getElem? (i := 1145) (by decide +kernel), List.mem_of_getElem? (i := 1146) (by decide +kernel)⟩
def lw_privs_3 : List (MethodName × Nat) := [(⟨"PlanBranchesModel", "reasonNow", "(IZ)I"⟩, 28), (⟨"PlanBranchesModel", "missing", "()I"⟩, 28), (⟨"PlanBranchesModel", "rings", "()I"⟩, 28), (⟨"PlanBranchesModel", "unplaced", "(II)I"⟩, 28), (⟨"PlanBranchesModel", "goes", "(I)I"⟩, 28), (⟨"PlanBranchesModel", "clears", "()V"⟩, 28), (⟨"PlanBranchesModel", "finds", "(I)V"⟩, 28), (⟨"PlanBranchesModel", "holds", "(II)I"⟩, 28), (⟨"PlanBranchesModel", "isReady", "(II)Z"⟩, 28), (⟨"PlanBranchesModel", "places", "(II)I"⟩, 28), (⟨"PlanBranchesModel", "becomes", "(I)I"⟩, 28), (⟨"PlanBranchesModel", "last", "(I)I"⟩, 28), (⟨"PlanBranchesModel", "byOrder", "(II)I"⟩, 28), (⟨"PlanBranchesModel", "turns", "(I)Z"⟩, 28)]
theorem lw_r3 : ∀ q ∈ lw_privs_3, lw_okq q := List.forall_mem_cons.mpr ⟨lw_p32, List.forall_mem_cons.mpr ⟨lw_p33, List.forall_mem_cons.mpr ⟨lw_p34, List.forall_mem_cons.mpr ⟨lw_p35, List.forall_mem_cons.mpr ⟨lw_p36, List.forall_mem_cons.mpr ⟨lw_p37, List.forall_mem_cons.mpr ⟨lw_p38, List.forall_mem_cons.mpr ⟨lw_p39, List.forall_mem_cons.mpr ⟨lw_p40, List.forall_mem_cons.mpr ⟨lw_p41, List.forall_mem_cons.mpr ⟨lw_p42, List.forall_mem_cons.mpr ⟨lw_p43, List.forall_mem_cons.mpr ⟨lw_p44, List.forall_mem_cons.mpr ⟨lw_p45, fun _ h => absurd h List.not_mem_nil⟩⟩⟩⟩⟩⟩⟩⟩⟩⟩⟩⟩⟩⟩
def lw_privs : List (MethodName × Nat) := lw_privs_1 ++ (lw_privs_2 ++ (lw_privs_3))
def lw_tbl : List Cond := k2_sels lw_privs ++ tables_1
theorem lw_privs_ok : ∀ q ∈ lw_privs, lw_okq q := by
  show ∀ q ∈ lw_privs_1 ++ (lw_privs_2 ++ (lw_privs_3)), lw_okq q
  exact List.forall_mem_append.mpr ⟨lw_r1, List.forall_mem_append.mpr ⟨lw_r2, lw_r3⟩⟩
end
section
/-! ===== BEGIN words of one list among another's, by their places ===== -/
theorem goodIn_r {big : List Cond} (ws : List Cond) (ps : List Nat) (hp : ws = ps.filterMap (fun i => big[i]?)) (h : ws.all goodWord = true) : GoodIn big ws := by
  intro w hw
  have h1 := List.all_eq_true.mp h w hw
  rw [hp] at hw
  obtain ⟨i, -, hi⟩ := List.mem_filterMap.mp hw
  have hm : w ∈ big := by first | exact List.mem_of_getElem? hi | exact List.getElem?_mem hi
  exact ⟨hm, good_of_word h1⟩
theorem goodIn_app {big a b : List Cond} (ha : GoodIn big a) (hb : GoodIn big b) : GoodIn big (a ++ b) := fun w h => (List.mem_append.mp h).elim (ha w) (hb w)
theorem goodIn_ca {big a b : List Cond} {c : Cond} (ha : GoodIn big (c :: a)) (hb : GoodIn big b) : GoodIn big (c :: (a ++ b)) := fun w h => (List.mem_cons.mp h).elim (fun e => ha w (List.mem_cons.mpr (Or.inl e))) (fun h => (List.mem_append.mp h).elim (fun h => ha w (List.mem_cons.mpr (Or.inr h))) (hb w))
theorem goodIn_sub {big ws : List Cond} (hm : ∀ w ∈ ws, w ∈ big) (h : ws.all goodWord = true) : GoodIn big ws := fun w hw => ⟨hm w hw, good_of_word (List.all_eq_true.mp h w hw)⟩
/-! ===== END ===== -/
/-! ===== BEGIN exceptions that leave a method, and their catching by the caller (launches without stack traces) ===== -/
section VXA
/-! The laws vx_back, vx_callV, vx_callS, vx_callSW, vx_throw0, vx_throwS follow proofs of the library, with one case more: JvmDerived/Free/Laws.lean (Back.of_free), Shelf42/LK1.lean (callV, callS), Shelf/KitTraced.lean (throwNew0V, throwNewS). -/
/-- where a method has thrown q: the class by its name, the cell, what was written, the world -/
def vx_T (XC : String → State → State → Prop) (st : State) (q : Addr) (t : State) (mc ms : Nat) (free : Addr → Prop) : Prop :=
  ∃ (E : String) (ce : Cell) (L : List Loc), XC E st t ∧ t.heap[q]? = some ce ∧ ce.vm = .none ∧ st.vm.findClass E = some ce.cls ∧ st.WarmedH t.vm ∧ st.sameButNew ({ t with vm := st.vm } : State) L mc ms ∧ ∀ z ∈ L, free z.base
def vx_Q (Qc : Array Value → State → Outcome → State → Prop) (XC : String → State → State → Prop) (mc ms : Nat) (free : Addr → Prop) : Array Value → State → Outcome → State → Prop := fun a st o t =>
  (Qc a st o t ∧ ∃ L, FrameEnd st o t L mc ms ∧ ∀ q ∈ L, free q.base) ∨ ∃ q, o = .threw q ∧ vx_T XC st q t mc ms free
/-- a callee that returns or throws -/
def vx_Met (l : Launch) (y : MethodName) (ws : List Cond) (rm : Room) (Pc : Array Value → State → Prop) (Qc : Array Value → State → Outcome → State → Prop) (XC : String → State → State → Prop) (mc ms : Nat) (free : Addr → Prop) : Prop :=
  MetFree l y (headSpec ws rm) Pc (fun _ _ _ _ _ => True) (vx_Q Qc XC mc ms free)
def vx_Post (XC : String → State → State → Prop) (mc ms : Nat) (free : Addr → Prop) : Pt → Array Value → Addr → Pt → Prop := fun A a q B =>
  ∃ (g : JFrame) (mk : MethodId) (t : State) (L : List Loc) (E : String) (ce : Cell), B.U.heap = t.heap ∧ B.U.vm = t.vm ∧ XC E (A.U.calling g mk a) t ∧ t.heap[q]? = some ce ∧ ce.vm = .none ∧ A.U.vm.findClass E = some ce.cls ∧ B.locs = A.locs ++ L ∧ (∀ z ∈ L, free z.base) ∧ B.cells = A.cells + mc ∧ B.slots = A.slots + ms
def vx_Back (l : Launch) (R : Room) (p : Program) (e : Env) (below : List Frame) (s : State) (sargs : Array Value) (y : MethodName) (len W9 : Nat)
    (Pre : Pt → Array Value → Prop) (Post : Pt → Array Value → Option Value → Pt → Prop) (PostX : Pt → Array Value → Addr → Pt → Prop) : Prop :=
  ∀ (m : MethodId) (meth : Method) (c : Code) (A : Pt) (g : JFrame) (ig : Instr) (mk : MethodId) (a : Array Value),
    Stand p l e R s m sargs below meth c A.U A.locs A.cells A.slots → g.method = m → g.locals.size = c.maxLocals → decode c.code g.pc = .ok (ig, len) →
    2 * g.monitorRoom + (g.stack.map fun v => v.category).sum ≤ W9 → A.U.methodNamed? y = some mk → Pre A a →
    (∃ (v : Option Value) (B : Pt), Stand p l e R s m sargs below meth c B.U B.locs B.cells B.slots ∧ Post A a v B ∧
      Steps p.tables e below (doInvoke e (A.U.setTop g) [] mk a).1 (B.U.setTop { g with pc := g.pc + len, stack := v.toList ++ g.stack })) ∨
    (∃ (q : Addr) (B : Pt), Stand p l e R s m sargs below meth c B.U B.locs B.cells B.slots ∧ PostX A a q B ∧
      Steps p.tables e below (doInvoke e (A.U.setTop g) [] mk a).1 ((B.U.setTop g).pushFrame (.throwing q)))
section Payer
variable {l : Launch} {R : Room} {p : Program} {e : Env} {below : List Frame} {s : State} {sargs : Array Value} {y : MethodName} {len W9 : Nat}
theorem vx_back {ws : List Cond} {rm : Room} {Pc : Array Value → State → Prop} {Qc : Array Value → State → Outcome → State → Prop} {XC : String → State → State → Prop} {mc ms : Nat} {free : Addr → Prop} {bytes : ByteArray} {maxL : Nat} {ret : Option FieldType}
    (hM : vx_Met l y ws rm Pc Qc XC mc ms free) (hblind : FrameBlind Pc) (hrc : rm.cells = mc) (hrs : rm.slots = ms)
    (hframes : rm.frames + 1 ≤ R.frames) (hlocals : W9 + (maxL + 11) + rm.locals ≤ R.locals)
    (hws : ∀ w ∈ ws, ∀ a' U, s.WarmedH U.vm → w.before a' U = true) (hcode : Cond.code y bytes maxL ret ∈ ws) (hinit : ∀ a' U, s.WarmedH U.vm → (Cond.initialized y.cls).before a' U = true) :
    vx_Back l R p e below s sargs y len W9 (PreOf R mc ms Pc) (PostOf Qc mc ms free) (vx_Post XC mc ms free) := by
  intro m meth c A g ig mk a X hg hsize hdg hW hn hp
  have h1 : (headSpec ws rm).pre.before a A.U = true := atoms_intro fun w hw => hws w hw _ _ X.warmed
  have h2 : (Cond.code y bytes maxL ret).before a A.U = true := hws _ hcode _ _ X.warmed
  have h3 : (Cond.initialized y.cls).before a A.U = true := hinit _ _ X.warmed
  have h4 : A.cells + (headSpec ws rm).room.cells ≤ R.cells := by rw [show (headSpec ws rm).room.cells = mc from hrc]; exact hp.1
  have h5 : A.slots + (headSpec ws rm).room.slots ≤ R.slots := by rw [show (headSpec ws rm).room.slots = ms from hrs]; exact hp.2.1
  have hPc : Pc a (A.U.calling g mk a) := hblind _ _ _ _ hp.2.2
  obtain ⟨U, Ls, c0, s0⟩ := A
  dsimp only [Pt.U, Pt.locs, Pt.cells, Pt.slots] at h1 h2 h3 h4 h5 X hn hPc ⊢
  obtain ⟨methY, cY, hmY, hcY, -, hlY, -, -, -, -⟩ := Cond.code_spec hn h2
  obtain ⟨kY, hkY, -⟩ := className_of_methodNamed hn
  have hinitY : kY.init = .initialized := Cond.initialized_spec (findClass_of_methodNamed hn) hkY h3
  have h : At U g.method c below := by rw [hg]; exact X.here
  have hlocals9 : W9 + (maxL + 11) + (headSpec ws rm).room.locals ≤ R.locals := hlocals
  have happ : (headSpec ws rm).appliesLoose y e.platform (U.calling g mk a) = true :=
    Spec.appliesLoose_calling (g := g) h hdg hn hkY hinitY
      (X.room_calling (g := g) (R' := (headSpec ws rm).room) hsize hmY hcY hframes (by rw [hlY]; omega) h4 h5) h1
  obtain ⟨mid, hmid⟩ := h.above
  have hfr : (U.setTop g).frames = (.java g :: mid) ++ below := by rw [State.frames_setTop' g h.top, hmid]; rfl
  obtain ⟨o, s₂, hsteps, -, hend, hq⟩ := Steps.callFree hM p X.admits X.cas X.clock (acts := []) hfr happ hPc trivial
  have hq' : vx_Q Qc XC mc ms free a (U.calling g mk a) o s₂ := hq
  rw [State.frames_setTop' g h.top] at hend
  obtain ⟨g₀, hg0⟩ := Option.isSome_iff_exists.mp h.top
  obtain ⟨r, hr⟩ := State.topJava?_eq_some.mp hg0
  have hr' : (({ U with heap := s₂.heap, slotsUsed := s₂.slotsUsed } : State).setVm s₂.vm).frames = .java g₀ :: r := hr
  rcases hq' with ⟨hqc, L, hfe, hL⟩ | ⟨q, rfl, E, ce, L, hx, hce, hcv, hcl, hW₂, hsm, hL⟩
  · obtain ⟨⟨v, rfl⟩, hW₂, e2, q2, q3, q4, q5, q6⟩ := id hfe
    have e3 : s₂ = ({ (U.calling g mk a).setFrames s₂.frames with heap := s₂.heap, slotsUsed := s₂.slotsUsed } : State).setVm s₂.vm := by
      have : s₂ = ({ s₂ with vm := (U.calling g mk a).vm } : State).setVm s₂.vm := rfl
      rw [e2] at this
      exact this
    obtain ⟨c₂, i₂, len₂, hc₂, hd₂, hf₂⟩ := hend
    have hW' : U.WarmedH s₂.vm := hW₂
    have hcc : c₂ = c := by
      have h1 : s₂.code? g.method = U.code? g.method := by
        rw [State.code?_eq, State.code?_eq, hW'.alike.method?]
      exact Option.some.inj (hc₂.symm.trans (h1.trans h.code))
    subst hcc
    have hlen : len₂ = len := by rw [hdg] at hd₂; cases hd₂; rfl
    subst hlen
    have hs₂ : s₂ = (({ U with heap := s₂.heap, slotsUsed := s₂.slotsUsed } : State).setVm s₂.vm).setTop { g with pc := g.pc + len₂, stack := v.toList ++ g.stack } := by
      refine e3.trans ?_
      rw [hf₂, State.calling_eq h.top, State.setFrames_setFrames, State.setTop_of_frames _ hr', hr]
      rfl
    have hsame : U.sameButNew ({ U with heap := s₂.heap, slotsUsed := s₂.slotsUsed } : State) L mc ms := by
      refine ⟨?_, q2, q3, q4, q5, q6⟩
      obtain ⟨t, ht, -⟩ := State.frames_cons hr
      show ({ U with heap := s₂.heap, slotsUsed := s₂.slotsUsed } : State) = { U.setFrames U.frames with heap := s₂.heap, slotsUsed := s₂.slotsUsed }
      rw [State.setFrames_self ht]
    subst hg
    refine Or.inl ⟨v, ⟨(({ U with heap := s₂.heap, slotsUsed := s₂.slotsUsed } : State).setVm s₂.vm), Ls ++ L, c0 + mc, s0 + ms⟩,
      ⟨X.admits, X.cas, X.clock, X.frames, X.room, X.hears, X.method, X.code, (X.here.setHeapUsed s₂.heap s₂.slotsUsed).setVm hW'.alike, X.tail, State.WarmedH.trans X.warmed hW', X.limits, X.bytes, X.same.trans (hsame.setVm s.vm)⟩,
      ⟨g, mk, s₂, L, rfl, rfl, hqc, rfl, hL, rfl, rfl⟩, ?_⟩
    show Steps p.tables e below _ ((({ U with heap := s₂.heap, slotsUsed := s₂.slotsUsed } : State).setVm s₂.vm).setTop { g with pc := g.pc + len₂, stack := v.toList ++ g.stack })
    rw [← hs₂]
    exact hsteps
  · obtain ⟨e2, q2, q3, q4, q5, q6⟩ := id hsm
    have e3 : s₂ = ({ (U.calling g mk a).setFrames s₂.frames with heap := s₂.heap, slotsUsed := s₂.slotsUsed } : State).setVm s₂.vm := by
      have : s₂ = ({ s₂ with vm := (U.calling g mk a).vm } : State).setVm s₂.vm := rfl
      rw [e2] at this
      exact this
    have hf₂ : s₂.frames = .throwing q :: .java g :: U.frames.tail := hend
    have hW' : U.WarmedH s₂.vm := hW₂
    have hs₂ : s₂ = ((({ U with heap := s₂.heap, slotsUsed := s₂.slotsUsed } : State).setVm s₂.vm).setTop g).pushFrame (.throwing q) := by
      refine e3.trans ?_
      rw [hf₂, State.calling_eq h.top, State.setFrames_setFrames, State.pushFrame, State.frames_setTop _ hr', State.setTop_of_frames _ hr', State.setFrames_setFrames, hr]
      rfl
    have hsame : U.sameButNew ({ U with heap := s₂.heap, slotsUsed := s₂.slotsUsed } : State) L mc ms := by
      refine ⟨?_, q2, q3, q4, q5, q6⟩
      obtain ⟨t, ht, -⟩ := State.frames_cons hr
      show ({ U with heap := s₂.heap, slotsUsed := s₂.slotsUsed } : State) = { U.setFrames U.frames with heap := s₂.heap, slotsUsed := s₂.slotsUsed }
      rw [State.setFrames_self ht]
    subst hg
    refine Or.inr ⟨q, ⟨(({ U with heap := s₂.heap, slotsUsed := s₂.slotsUsed } : State).setVm s₂.vm), Ls ++ L, c0 + mc, s0 + ms⟩,
      ⟨X.admits, X.cas, X.clock, X.frames, X.room, X.hears, X.method, X.code, (X.here.setHeapUsed s₂.heap s₂.slotsUsed).setVm hW'.alike, X.tail, State.WarmedH.trans X.warmed hW', X.limits, X.bytes, X.same.trans (hsame.setVm s.vm)⟩,
      ⟨g, mk, s₂, L, E, ce, rfl, rfl, hx, hce, hcv, hcl, rfl, hL, rfl, rfl⟩, ?_⟩
    show Steps p.tables e below _ (((({ U with heap := s₂.heap, slotsUsed := s₂.slotsUsed } : State).setVm s₂.vm).setTop g).pushFrame (.throwing q))
    rw [← hs₂]
    exact hsteps
end Payer
section Calls
variable {p : Program} {l : Launch} {e : Env} {R : Room} {s : State} {m : MethodId} {args : Array Value} {below : List Frame} {meth : Method} {c : Code} {T : State} {locs : List Loc} {cells slots : Nat}
theorem vx_callV (X : Stand p l e R s m args below meth c T locs cells slots) (hexec : p.tables.exec = Jvm.exec) {own C : String} {index : Nat} {y : MethodName} {bytes : ByteArray} {maxL : Nat} {ret : Option FieldType}
    (hown : s.vm.findClass own = some m.cls) (hlink : (Cond.methodLink own index y).before args s = true) (hinst : (Cond.instanceMethod y).before args s = true) (hsel : (Cond.selects C y y).before args s = true)
    (hcode : (Cond.code y bytes maxL ret).before args s = true) (hy : y.cls ≠ "java/lang/invoke/MethodHandle" ∧ y.cls ≠ "java/lang/invoke/VarHandle")
    {W9 : Nat} {Pre : Pt → Array Value → Prop} {Post : Pt → Array Value → Option Value → Pt → Prop} {PostX : Pt → Array Value → Addr → Pt → Prop} (hK : vx_Back l R p e below s args y 3 W9 Pre Post PostX)
    {b : Addr} {cellB : Cell} (hcell : T.heap[b]? = some cellB) (hobj : cellB.vm.isStatics = false) (hcls : s.vm.findClass C = some cellB.cls)
    {g : JFrame} (hg : g.method = m) (hsize : g.locals.size = c.maxLocals) {argsL rest : List Value} (hlen : ∀ sig, parseMethodDescriptor y.desc = some sig → argsL.length = sig.parameters.length)
    (hstack : g.stack = argsL.reverse ++ .ref b :: rest) (hW : 2 * g.monitorRoom + (rest.map fun v => v.category).sum ≤ W9) (hdg : decode c.code g.pc = .ok (.invokevirtual index, 3))
    (hpre : ∀ vm₁, s.WarmedH vm₁ → Pre ⟨T.setVm vm₁, locs, cells, slots⟩ (Value.ref b :: argsL).toArray) :
    (∃ (v : Option Value) (vm₁ : Vm) (B : Pt), s.WarmedH vm₁ ∧ Stand p l e R s m args below meth c B.U B.locs B.cells B.slots ∧ Post ⟨T.setVm vm₁, locs, cells, slots⟩ (Value.ref b :: argsL).toArray v B ∧
      ∀ target, Steps p.tables e below (B.U.setTop { g with pc := g.pc + 3, stack := v.toList ++ rest }) target → Steps p.tables e below (T.setTop g) target) ∨
    (∃ (q : Addr) (vm₁ : Vm) (B : Pt), s.WarmedH vm₁ ∧ Stand p l e R s m args below meth c B.U B.locs B.cells B.slots ∧ PostX ⟨T.setVm vm₁, locs, cells, slots⟩ (Value.ref b :: argsL).toArray q B ∧
      Steps p.tables e below (T.setTop g) ((B.U.setTop { g with stack := rest }).pushFrame (.throwing q))) := by
  obtain ⟨mk, methM, hnamed, hmethM, hstM, habM⟩ := Cond.instanceMethod_spec hinst
  obtain ⟨methM', cM, hmethM', -, -, -, -, -, -, hsigM⟩ := Cond.code_spec hnamed hcode
  cases hmethM.symm.trans hmethM'
  obtain ⟨c2, r2, m2, q1, q2, q3, q4, kP, hkP, hkPi⟩ := Cond.selects_spec hsel
  cases hcls.symm.trans q1
  cases (State.methodFound?_of_named hnamed hy).symm.trans q2
  cases hnamed.symm.trans q3
  have hselP : selectMethod e.platform s.vm cellB.cls mk = .method mk := by rw [Launch.admits_selectMethod X.admits]; exact q4
  obtain ⟨vm₁, X₁, hstep₁⟩ := X.invokevirtual hexec hown hlink hnamed hmethM hstM hkP hkPi hy (a := b) (cell := cellB) hcell
    (fun z h => by rw [h] at hobj; cases hobj) hselP hmethM habM hkP hkPi (g := g) hg (argsL := argsL) (rest := rest) (hlen _ hsigM) hstack hdg
  rcases hK m meth c ⟨T.setVm vm₁, locs, cells, slots⟩ { g with stack := rest } (.invokevirtual index) mk (Value.ref b :: argsL).toArray X₁ hg hsize hdg hW (X₁.named hnamed) (hpre vm₁ X₁.warmed) with ⟨v, B, X', hpost, hsteps⟩ | ⟨q, B, X', hpost, hsteps⟩
  · exact Or.inl ⟨v, vm₁, B, X₁.warmed, X', hpost, fun target h => hstep₁ _ fun acts => by rw [doInvoke_state]; exact hsteps.trans h⟩
  · exact Or.inr ⟨q, vm₁, B, X₁.warmed, X', hpost, hstep₁ _ fun acts => by rw [doInvoke_state]; exact hsteps⟩
theorem vx_callS (X : Stand p l e R s m args below meth c T locs cells slots) (hexec : p.tables.exec = Jvm.exec) {own : String} {index : Nat} {y : MethodName} {bytes : ByteArray} {maxL : Nat} {ret : Option FieldType}
    (hown : s.vm.findClass own = some m.cls) (hlink : (Cond.methodLink own index y).before args s = true) (hstat : (Cond.static y).before args s = true) (hinit : (Cond.initialized y.cls).before args s = true)
    (hcode : (Cond.code y bytes maxL ret).before args s = true) (hy : y.cls ≠ "java/lang/invoke/MethodHandle" ∧ y.cls ≠ "java/lang/invoke/VarHandle")
    {W9 : Nat} {Pre : Pt → Array Value → Prop} {Post : Pt → Array Value → Option Value → Pt → Prop} {PostX : Pt → Array Value → Addr → Pt → Prop} (hK : vx_Back l R p e below s args y 3 W9 Pre Post PostX)
    {g : JFrame} (hg : g.method = m) (hsize : g.locals.size = c.maxLocals) {argsL rest : List Value} (hlen : ∀ sig, parseMethodDescriptor y.desc = some sig → argsL.length = sig.parameters.length)
    (hstack : g.stack = argsL.reverse ++ rest) (hW : 2 * g.monitorRoom + (rest.map fun v => v.category).sum ≤ W9) (hdg : decode c.code g.pc = .ok (.invokestatic index, 3))
    (hpre : ∀ vm₁, s.WarmedH vm₁ → Pre ⟨T.setVm vm₁, locs, cells, slots⟩ argsL.toArray) :
    (∃ (v : Option Value) (vm₁ : Vm) (B : Pt), s.WarmedH vm₁ ∧ Stand p l e R s m args below meth c B.U B.locs B.cells B.slots ∧ Post ⟨T.setVm vm₁, locs, cells, slots⟩ argsL.toArray v B ∧
      ∀ target, Steps p.tables e below (B.U.setTop { g with pc := g.pc + 3, stack := v.toList ++ rest }) target → Steps p.tables e below (T.setTop g) target) ∨
    (∃ (q : Addr) (vm₁ : Vm) (B : Pt), s.WarmedH vm₁ ∧ Stand p l e R s m args below meth c B.U B.locs B.cells B.slots ∧ PostX ⟨T.setVm vm₁, locs, cells, slots⟩ argsL.toArray q B ∧
      Steps p.tables e below (T.setTop g) ((B.U.setTop { g with stack := rest }).pushFrame (.throwing q))) := by
  obtain ⟨mk, hnamed⟩ := Cond.code_named hcode
  obtain ⟨methM, cM, hmethM, -, -, -, -, -, -, hsigM⟩ := Cond.code_spec hnamed hcode
  have hstatic : methM.isStatic = true := Cond.static_spec hnamed hmethM hstat
  obtain ⟨kP, hkP, -⟩ := className_of_methodNamed hnamed
  have hinitP : kP.init = .initialized := Cond.initialized_spec (findClass_of_methodNamed hnamed) hkP hinit
  obtain ⟨vm₁, X₁, hstep₁⟩ := X.invokestatic hexec hown hlink hnamed hmethM hstatic hkP hinitP hy (g := g) hg (argsL := argsL) (rest := rest) (hlen _ hsigM) hstack hdg
  rcases hK m meth c ⟨T.setVm vm₁, locs, cells, slots⟩ { g with stack := rest } (.invokestatic index) mk argsL.toArray X₁ hg hsize hdg hW (X₁.named hnamed) (hpre vm₁ X₁.warmed) with ⟨v, B, X', hpost, hsteps⟩ | ⟨q, B, X', hpost, hsteps⟩
  · exact Or.inl ⟨v, vm₁, B, X₁.warmed, X', hpost, fun target h => hstep₁ _ fun acts => by rw [doInvoke_state]; exact hsteps.trans h⟩
  · exact Or.inr ⟨q, vm₁, B, X₁.warmed, X', hpost, hstep₁ _ fun acts => by rw [doInvoke_state]; exact hsteps⟩
end Calls
theorem vx_cls {s : State} {T : State} {vm₁ : Vm} {E : String} {k : ClassId} (hW : s.WarmedH vm₁) (h : (T.setVm vm₁).vm.findClass E = some k) : s.vm.findClass E = some k := by
  have h1 : vm₁.findClass E = some k := h
  rw [hW.alike.findClass] at h1
  exact h1
/-- the method's frame g, with q thrown over it -/
def vx_W (p : Program) (l : Launch) (e : Env) (R : Room) (s : State) (m : MethodId) (args : Array Value) (below : List Frame) (meth : Method) (c : Code) (H : Heap) (locs : List Loc) (cells slots : Nat) (Q : State → Prop) (g : JFrame) (q : Addr) : Prop :=
  ∀ T : State, T.heap = H → Stand p l e R s m args below meth c T locs cells slots → ∃ t, Steps p.tables e below ((T.setTop g).pushFrame (.throwing q)) t ∧ Q t
def vx_Run (p : Program) (l : Launch) (e : Env) (R : Room) (s : State) (m : MethodId) (args : Array Value) (below : List Frame) (meth : Method) (c : Code) (H : Heap) (locs : List Loc) (cells slots mc ms : Nat) (g : JFrame) (rest : List Value) (Qa : State → Outcome → State → Prop) (XC : String → State → State → Prop) (free : Addr → Prop) : Prop :=
  ∀ T : State, T.heap = H → Stand p l e R s m args below meth c T locs cells slots →
    (∃ (v : Option Value) (st₀ t T' : State) (L : List Loc), st₀.heap = H ∧ Stand p l e R s m args below meth c T' (locs ++ L) (cells + mc) (slots + ms) ∧ (∀ q ∈ L, free q.base) ∧ T'.heap = t.heap ∧ T'.vm = t.vm ∧ Qa st₀ (.returned v) t ∧
      Goes p e below T g T' { g with pc := g.pc + 3, stack := v.toList ++ rest }) ∨
    (∃ (q : Addr) (st₀ t T' : State) (L : List Loc) (E : String) (ce : Cell), st₀.heap = H ∧ Stand p l e R s m args below meth c T' (locs ++ L) (cells + mc) (slots + ms) ∧ (∀ z ∈ L, free z.base) ∧ T'.heap = t.heap ∧ T'.vm = t.vm ∧ XC E st₀ t ∧ t.heap[q]? = some ce ∧ ce.vm = .none ∧ s.vm.findClass E = some ce.cls ∧
      Steps p.tables e below (T.setTop g) ((T'.setTop { g with stack := rest }).pushFrame (.throwing q)))
def vx_X {S : Type} (px : S → Prop) (B : String → S → State → Prop) (A : Nat → Prop) : String → State → State → Prop := fun E st t => ∃ u : S, px u ∧ B E u t ∧ va_F A st t
section Runs
variable {p : Program} {l : Launch} {e : Env} {R : Room} {s : State} {m : MethodId} {args : Array Value} {below : List Frame} {meth : Method} {c : Code} {H : Heap} {locs : List Loc} {cells slots : Nat}
variable {y : MethodName} {bytes cc : ByteArray} {maxL nL mc ms n index : Nat} {ret : Option FieldType} {ws : List Cond} {rm : Room} {Pc : Array Value → State → Prop} {Qc : Array Value → State → Outcome → State → Prop} {XC : String → State → State → Prop} {free : Addr → Prop} {Ts : List Cond} {own C : String} {b : Addr} {As rest : List Value} {g : JFrame}
theorem vx_callBack (cb : CallB R s args own index y bytes maxL ret ws rm mc ms n) (hM : vx_Met l y ws rm Pc Qc XC mc ms free) (hbl : FrameBlind Pc) : vx_Back l R p e below s args y 3 8 (PreOf R mc ms Pc) (PostOf Qc mc ms free) (vx_Post XC mc ms free) := by
  obtain ⟨hrc, hrs, hfr, hlo, hws, hcw, -, hini, -⟩ := cb
  exact vx_back (bytes := bytes) (maxL := maxL) (ret := ret) hM hbl hrc hrs hfr hlo hws hcw (fun a' U hW => word_at hW (Or.inl (by first | rfl | simp [Cond.onTables, Cond.keeps, Cond.steady])) hini)
theorem vx_runV (S : CallFix p m c cc nL s args Ts own) (hM : vx_Met l y ws rm Pc Qc XC mc ms free) (cw : CallW R s args own C index y bytes maxL ret ws rm mc ms n) (hp : PreV s H C b Pc As)
    (hg : g.method = m) (hn : As.length = n) (hsize : g.locals.size = nL) (hstack : g.stack = As.reverse ++ .ref b :: rest) (hW : 2 * g.monitorRoom + (rest.map fun v => v.category).sum ≤ 8) (hdg : decode cc g.pc = .ok (.invokevirtual index, 3)) (hf : cells + mc ≤ R.cells ∧ slots + ms ≤ R.slots) :
    vx_Run p l e R s m args below meth c H locs cells slots mc ms g rest (Qc (Value.ref b :: As).toArray) XC free := by
  have hK : vx_Back l R p e below s args y 3 8 (PreOf R mc ms Pc) (PostOf Qc mc ms free) (vx_Post XC mc ms free) := vx_callBack cw.1 hM hp.1
  obtain ⟨⟨-, -, -, -, -, -, hcode, -, hy, hlen, hl⟩, hin, hse⟩ := cw
  obtain ⟨hx, hb, hml, ho, -⟩ := S
  obtain ⟨-, ⟨cellB, hcB, hoB, hclB⟩, hPc⟩ := hp
  intro T hT X
  rcases vx_callV X hx (C := C) (bytes := bytes) (maxL := maxL) (ret := ret) ho hl hin hse hcode hy hK (by rw [hT]; exact hcB) hoB hclB hg (hsize.trans hml.symm) (argsL := As) (rest := rest) (fun sig h => hn.trans (hlen sig h)) hstack hW (by rw [hb]; exact hdg)
    (fun vm₁ hW₁ => ⟨hf.1, hf.2, hPc (T.setVm vm₁) hT hW₁⟩) with ⟨v, vm₁, ⟨U', l2, c2, s2⟩, hW₁, X', ⟨g', mk, t, L, e1, e2, hq, h1, hL, h2, h3⟩, st⟩ | ⟨q, vm₁, ⟨U', l2, c2, s2⟩, hW₁, X', ⟨g', mk, t, L, E, ce, e1, e2, hq, hce, hcv, hcl, h1, hL, h2, h3⟩, st⟩
  · dsimp only [Pt.U, Pt.locs, Pt.cells, Pt.slots] at X' e1 e2 h1 h2 h3 st
    subst h1; subst h2; subst h3
    exact Or.inl ⟨v, (T.setVm vm₁).calling g' mk (Value.ref b :: As).toArray, t, U', L, hT, X', hL, e1, e2, hq, st⟩
  · dsimp only [Pt.U, Pt.locs, Pt.cells, Pt.slots] at X' e1 e2 h1 h2 h3 st hcl
    subst h1; subst h2; subst h3
    exact Or.inr ⟨q, (T.setVm vm₁).calling g' mk (Value.ref b :: As).toArray, t, U', L, E, ce, hT, X', hL, e1, e2, hq, hce, hcv, vx_cls hW₁ hcl, st⟩
theorem vx_runS (S : CallFix p m c cc nL s args Ts own) (hM : vx_Met l y ws rm Pc Qc XC mc ms free) (cw : CallB R s args own index y bytes maxL ret ws rm mc ms n ∧ (Cond.static y).before args s = true) (hp : PreS s H Pc As)
    (hg : g.method = m) (hn : As.length = n) (hsize : g.locals.size = nL) (hstack : g.stack = As.reverse ++ rest) (hW : 2 * g.monitorRoom + (rest.map fun v => v.category).sum ≤ 8) (hdg : decode cc g.pc = .ok (.invokestatic index, 3)) (hf : cells + mc ≤ R.cells ∧ slots + ms ≤ R.slots) :
    vx_Run p l e R s m args below meth c H locs cells slots mc ms g rest (Qc As.toArray) XC free := by
  have hK : vx_Back l R p e below s args y 3 8 (PreOf R mc ms Pc) (PostOf Qc mc ms free) (vx_Post XC mc ms free) := vx_callBack cw.1 hM hp.1
  obtain ⟨⟨-, -, -, -, -, -, hcode, hini, hy, hlen, hl⟩, hstt⟩ := cw
  obtain ⟨hx, hb, hml, ho, -⟩ := S
  intro T hT X
  rcases vx_callS X hx (bytes := bytes) (maxL := maxL) (ret := ret) ho hl hstt hini hcode hy hK hg (hsize.trans hml.symm) (argsL := As) (rest := rest) (fun sig h => hn.trans (hlen sig h)) hstack hW (by rw [hb]; exact hdg)
    (fun vm₁ hW₁ => ⟨hf.1, hf.2, hp.2 (T.setVm vm₁) hT hW₁⟩) with ⟨v, vm₁, ⟨U', l2, c2, s2⟩, hW₁, X', ⟨g', mk, t, L, e1, e2, hq, h1, hL, h2, h3⟩, st⟩ | ⟨q, vm₁, ⟨U', l2, c2, s2⟩, hW₁, X', ⟨g', mk, t, L, E, ce, e1, e2, hq, hce, hcv, hcl, h1, hL, h2, h3⟩, st⟩
  · dsimp only [Pt.U, Pt.locs, Pt.cells, Pt.slots] at X' e1 e2 h1 h2 h3 st
    subst h1; subst h2; subst h3
    exact Or.inl ⟨v, (T.setVm vm₁).calling g' mk As.toArray, t, U', L, hT, X', hL, e1, e2, hq, st⟩
  · dsimp only [Pt.U, Pt.locs, Pt.cells, Pt.slots] at X' e1 e2 h1 h2 h3 st hcl
    subst h1; subst h2; subst h3
    exact Or.inr ⟨q, (T.setVm vm₁).calling g' mk As.toArray, t, U', L, E, ce, hT, X', hL, e1, e2, hq, hce, hcv, vx_cls hW₁ hcl, st⟩
end Runs
section Rows
variable {p : Program} {l : Launch} {e : Env} {R : Room} {s : State} {m : MethodId} {args : Array Value} {below : List Frame} {meth : Method} {c : Code} {H : Heap} {locs : List Loc} {cells slots : Nat} {Q : State → Prop}
variable {mc ms : Nat} {free : Addr → Prop} {A0 A1 : Nat → Prop} {H0 : Heap} {a : Array Value} {pc : Nat} {ls : Array Slot} {st0 rest : List Value}
theorem vx_keep {st₀ t T' : State} {L : List Loc} (h0 : st₀.heap = H) (e1 : T'.heap = t.heap) (hS : va_S A0 H0 H locs) (hA : ∀ q, q < H.size → A1 q → A0 q) (hf : ∀ q, free q → A0 q) (hL : ∀ q ∈ L, free q.base) (hF : va_F A1 st₀ t) :
    H.size ≤ T'.heap.size ∧ (∀ q : Nat, q < H.size → ¬ A1 q → T'.heap[q]? = H[q]?) ∧ va_S A0 H0 T'.heap (locs ++ L) := by
  obtain ⟨hz, hk⟩ := hF
  rw [h0] at hz hk
  exact ⟨by rw [e1]; exact hz, fun q h1 h2 => by rw [e1]; exact hk q h1 h2,
    ⟨Nat.le_trans hS.1 (by rw [e1]; exact hz), fun q h1 h2 => by rw [e1, hk q (Nat.lt_of_lt_of_le h1 hS.1) (fun z => h2 (hA q (Nat.lt_of_lt_of_le h1 hS.1) z))]; exact hS.2.1 q h1 h2, fun q hq => by
      rcases List.mem_append.mp hq with h | h
      · exact hS.2.2 q h
      · exact hf _ (hL q h)⟩⟩
theorem vx_calli {S SX : Type} {post : Int32 → S → Prop} {px : SX → Prop} {B : S → State → Prop} {BX : String → SX → State → Prop} {AX : Nat → Prop} (hr : vx_Run p l e R s m args below meth c H locs cells slots mc ms (F0 m pc ls st0) rest (va_Qi post B A1 a) (vx_X px BX AX) free) (hS : va_S A0 H0 H locs) (hA : ∀ q, q < H.size → A1 q → A0 q) (hf : ∀ q, free q → A0 q) (hAX : ∀ q, q < H.size → AX q → A0 q)
    (kx : ∀ (E : String) (ce : Cell) (q9 : Addr) (u : SX) (t : State) (H1 : Heap) (locs1 : List Loc), t.heap = H1 → s.vm.Alike t.vm → px u → BX E u t → H.size ≤ H1.size → (∀ q : Nat, q < H.size → ¬ AX q → H1[q]? = H[q]?) → va_S A0 H0 H1 locs1 → H1[q9]? = some ce → ce.vm = .none → s.vm.findClass E = some ce.cls → vx_W p l e R s m args below meth c H1 locs1 (cells + mc) (slots + ms) Q (F0 m pc ls rest) q9)
    (kk : ∀ (r : Int32) (u : S) (t : State) (H1 : Heap) (locs1 : List Loc), t.heap = H1 → s.vm.Alike t.vm → post r u → B u t → H.size ≤ H1.size → (∀ q : Nat, q < H.size → ¬ A1 q → H1[q]? = H[q]?) → va_S A0 H0 H1 locs1 → W p l e R s m args below meth c H1 locs1 (cells + mc) (slots + ms) Q (F0 m (pc + 3) ls (.int r :: rest))) : W p l e R s m args below meth c H locs cells slots Q (F0 m pc ls st0) := by
  intro T hT X
  rcases hr T hT X with ⟨v, st₀, t, T', L, h0, X', hL, e1, e2, ⟨⟨r, u, hv, hp, hb⟩, hF⟩, st⟩ | ⟨q, st₀, t, T', L, E, ce, h0, X', hL, e1, e2, ⟨u, hp, hb, hF⟩, hce, hcv, hcl, st⟩
  · cases hv
    obtain ⟨k1, k2, k3⟩ := vx_keep h0 e1 hS hA hf hL hF
    obtain ⟨t2, a1, b1⟩ := kk r u t T'.heap (locs ++ L) e1.symm (by rw [← e2]; exact X'.warmed.alike) hp hb k1 k2 k3 T' rfl X'
    exact ⟨t2, st t2 a1, b1⟩
  · obtain ⟨k1, k2, k3⟩ := vx_keep h0 e1 hS hAX hf hL hF
    obtain ⟨t2, a1, b1⟩ := kx E ce q u t T'.heap (locs ++ L) e1.symm (by rw [← e2]; exact X'.warmed.alike) hp hb k1 k2 k3 (by rw [e1]; exact hce) hcv hcl T' rfl X'
    exact ⟨t2, st.trans a1, b1⟩
theorem vx_calll {S SX : Type} {post : Int64 → S → Prop} {px : SX → Prop} {B : S → State → Prop} {BX : String → SX → State → Prop} {AX : Nat → Prop} (hr : vx_Run p l e R s m args below meth c H locs cells slots mc ms (F0 m pc ls st0) rest (va_Ql post B A1 a) (vx_X px BX AX) free) (hS : va_S A0 H0 H locs) (hA : ∀ q, q < H.size → A1 q → A0 q) (hf : ∀ q, free q → A0 q) (hAX : ∀ q, q < H.size → AX q → A0 q)
    (kx : ∀ (E : String) (ce : Cell) (q9 : Addr) (u : SX) (t : State) (H1 : Heap) (locs1 : List Loc), t.heap = H1 → s.vm.Alike t.vm → px u → BX E u t → H.size ≤ H1.size → (∀ q : Nat, q < H.size → ¬ AX q → H1[q]? = H[q]?) → va_S A0 H0 H1 locs1 → H1[q9]? = some ce → ce.vm = .none → s.vm.findClass E = some ce.cls → vx_W p l e R s m args below meth c H1 locs1 (cells + mc) (slots + ms) Q (F0 m pc ls rest) q9)
    (kk : ∀ (r : Int64) (u : S) (t : State) (H1 : Heap) (locs1 : List Loc), t.heap = H1 → s.vm.Alike t.vm → post r u → B u t → H.size ≤ H1.size → (∀ q : Nat, q < H.size → ¬ A1 q → H1[q]? = H[q]?) → va_S A0 H0 H1 locs1 → W p l e R s m args below meth c H1 locs1 (cells + mc) (slots + ms) Q (F0 m (pc + 3) ls (.long r :: rest))) : W p l e R s m args below meth c H locs cells slots Q (F0 m pc ls st0) := by
  intro T hT X
  rcases hr T hT X with ⟨v, st₀, t, T', L, h0, X', hL, e1, e2, ⟨⟨r, u, hv, hp, hb⟩, hF⟩, st⟩ | ⟨q, st₀, t, T', L, E, ce, h0, X', hL, e1, e2, ⟨u, hp, hb, hF⟩, hce, hcv, hcl, st⟩
  · cases hv
    obtain ⟨k1, k2, k3⟩ := vx_keep h0 e1 hS hA hf hL hF
    obtain ⟨t2, a1, b1⟩ := kk r u t T'.heap (locs ++ L) e1.symm (by rw [← e2]; exact X'.warmed.alike) hp hb k1 k2 k3 T' rfl X'
    exact ⟨t2, st t2 a1, b1⟩
  · obtain ⟨k1, k2, k3⟩ := vx_keep h0 e1 hS hAX hf hL hF
    obtain ⟨t2, a1, b1⟩ := kx E ce q u t T'.heap (locs ++ L) e1.symm (by rw [← e2]; exact X'.warmed.alike) hp hb k1 k2 k3 (by rw [e1]; exact hce) hcv hcl T' rfl X'
    exact ⟨t2, st.trans a1, b1⟩
theorem vx_callf {S SX : Type} {post : UInt32 → S → Prop} {px : SX → Prop} {B : S → State → Prop} {BX : String → SX → State → Prop} {AX : Nat → Prop} (hr : vx_Run p l e R s m args below meth c H locs cells slots mc ms (F0 m pc ls st0) rest (va_Qf post B A1 a) (vx_X px BX AX) free) (hS : va_S A0 H0 H locs) (hA : ∀ q, q < H.size → A1 q → A0 q) (hf : ∀ q, free q → A0 q) (hAX : ∀ q, q < H.size → AX q → A0 q)
    (kx : ∀ (E : String) (ce : Cell) (q9 : Addr) (u : SX) (t : State) (H1 : Heap) (locs1 : List Loc), t.heap = H1 → s.vm.Alike t.vm → px u → BX E u t → H.size ≤ H1.size → (∀ q : Nat, q < H.size → ¬ AX q → H1[q]? = H[q]?) → va_S A0 H0 H1 locs1 → H1[q9]? = some ce → ce.vm = .none → s.vm.findClass E = some ce.cls → vx_W p l e R s m args below meth c H1 locs1 (cells + mc) (slots + ms) Q (F0 m pc ls rest) q9)
    (kk : ∀ (r : UInt32) (u : S) (t : State) (H1 : Heap) (locs1 : List Loc), t.heap = H1 → s.vm.Alike t.vm → post r u → B u t → H.size ≤ H1.size → (∀ q : Nat, q < H.size → ¬ A1 q → H1[q]? = H[q]?) → va_S A0 H0 H1 locs1 → W p l e R s m args below meth c H1 locs1 (cells + mc) (slots + ms) Q (F0 m (pc + 3) ls (.float r :: rest))) : W p l e R s m args below meth c H locs cells slots Q (F0 m pc ls st0) := by
  intro T hT X
  rcases hr T hT X with ⟨v, st₀, t, T', L, h0, X', hL, e1, e2, ⟨⟨r, u, hv, hp, hb⟩, hF⟩, st⟩ | ⟨q, st₀, t, T', L, E, ce, h0, X', hL, e1, e2, ⟨u, hp, hb, hF⟩, hce, hcv, hcl, st⟩
  · cases hv
    obtain ⟨k1, k2, k3⟩ := vx_keep h0 e1 hS hA hf hL hF
    obtain ⟨t2, a1, b1⟩ := kk r u t T'.heap (locs ++ L) e1.symm (by rw [← e2]; exact X'.warmed.alike) hp hb k1 k2 k3 T' rfl X'
    exact ⟨t2, st t2 a1, b1⟩
  · obtain ⟨k1, k2, k3⟩ := vx_keep h0 e1 hS hAX hf hL hF
    obtain ⟨t2, a1, b1⟩ := kx E ce q u t T'.heap (locs ++ L) e1.symm (by rw [← e2]; exact X'.warmed.alike) hp hb k1 k2 k3 (by rw [e1]; exact hce) hcv hcl T' rfl X'
    exact ⟨t2, st.trans a1, b1⟩
theorem vx_calld {S SX : Type} {post : UInt64 → S → Prop} {px : SX → Prop} {B : S → State → Prop} {BX : String → SX → State → Prop} {AX : Nat → Prop} (hr : vx_Run p l e R s m args below meth c H locs cells slots mc ms (F0 m pc ls st0) rest (va_Qd post B A1 a) (vx_X px BX AX) free) (hS : va_S A0 H0 H locs) (hA : ∀ q, q < H.size → A1 q → A0 q) (hf : ∀ q, free q → A0 q) (hAX : ∀ q, q < H.size → AX q → A0 q)
    (kx : ∀ (E : String) (ce : Cell) (q9 : Addr) (u : SX) (t : State) (H1 : Heap) (locs1 : List Loc), t.heap = H1 → s.vm.Alike t.vm → px u → BX E u t → H.size ≤ H1.size → (∀ q : Nat, q < H.size → ¬ AX q → H1[q]? = H[q]?) → va_S A0 H0 H1 locs1 → H1[q9]? = some ce → ce.vm = .none → s.vm.findClass E = some ce.cls → vx_W p l e R s m args below meth c H1 locs1 (cells + mc) (slots + ms) Q (F0 m pc ls rest) q9)
    (kk : ∀ (r : UInt64) (u : S) (t : State) (H1 : Heap) (locs1 : List Loc), t.heap = H1 → s.vm.Alike t.vm → post r u → B u t → H.size ≤ H1.size → (∀ q : Nat, q < H.size → ¬ A1 q → H1[q]? = H[q]?) → va_S A0 H0 H1 locs1 → W p l e R s m args below meth c H1 locs1 (cells + mc) (slots + ms) Q (F0 m (pc + 3) ls (.double r :: rest))) : W p l e R s m args below meth c H locs cells slots Q (F0 m pc ls st0) := by
  intro T hT X
  rcases hr T hT X with ⟨v, st₀, t, T', L, h0, X', hL, e1, e2, ⟨⟨r, u, hv, hp, hb⟩, hF⟩, st⟩ | ⟨q, st₀, t, T', L, E, ce, h0, X', hL, e1, e2, ⟨u, hp, hb, hF⟩, hce, hcv, hcl, st⟩
  · cases hv
    obtain ⟨k1, k2, k3⟩ := vx_keep h0 e1 hS hA hf hL hF
    obtain ⟨t2, a1, b1⟩ := kk r u t T'.heap (locs ++ L) e1.symm (by rw [← e2]; exact X'.warmed.alike) hp hb k1 k2 k3 T' rfl X'
    exact ⟨t2, st t2 a1, b1⟩
  · obtain ⟨k1, k2, k3⟩ := vx_keep h0 e1 hS hAX hf hL hF
    obtain ⟨t2, a1, b1⟩ := kx E ce q u t T'.heap (locs ++ L) e1.symm (by rw [← e2]; exact X'.warmed.alike) hp hb k1 k2 k3 (by rw [e1]; exact hce) hcv hcl T' rfl X'
    exact ⟨t2, st.trans a1, b1⟩
theorem vx_callv {S SX : Type} {post : S → Prop} {px : SX → Prop} {B : S → State → Prop} {BX : String → SX → State → Prop} {AX : Nat → Prop} (hr : vx_Run p l e R s m args below meth c H locs cells slots mc ms (F0 m pc ls st0) rest (va_Qv post B A1 a) (vx_X px BX AX) free) (hS : va_S A0 H0 H locs) (hA : ∀ q, q < H.size → A1 q → A0 q) (hf : ∀ q, free q → A0 q) (hAX : ∀ q, q < H.size → AX q → A0 q)
    (kx : ∀ (E : String) (ce : Cell) (q9 : Addr) (u : SX) (t : State) (H1 : Heap) (locs1 : List Loc), t.heap = H1 → s.vm.Alike t.vm → px u → BX E u t → H.size ≤ H1.size → (∀ q : Nat, q < H.size → ¬ AX q → H1[q]? = H[q]?) → va_S A0 H0 H1 locs1 → H1[q9]? = some ce → ce.vm = .none → s.vm.findClass E = some ce.cls → vx_W p l e R s m args below meth c H1 locs1 (cells + mc) (slots + ms) Q (F0 m pc ls rest) q9)
    (kk : ∀ (u : S) (t : State) (H1 : Heap) (locs1 : List Loc), t.heap = H1 → s.vm.Alike t.vm → post u → B u t → H.size ≤ H1.size → (∀ q : Nat, q < H.size → ¬ A1 q → H1[q]? = H[q]?) → va_S A0 H0 H1 locs1 → W p l e R s m args below meth c H1 locs1 (cells + mc) (slots + ms) Q (F0 m (pc + 3) ls (rest))) : W p l e R s m args below meth c H locs cells slots Q (F0 m pc ls st0) := by
  intro T hT X
  rcases hr T hT X with ⟨v, st₀, t, T', L, h0, X', hL, e1, e2, ⟨⟨u, hv, hp, hb⟩, hF⟩, st⟩ | ⟨q, st₀, t, T', L, E, ce, h0, X', hL, e1, e2, ⟨u, hp, hb, hF⟩, hce, hcv, hcl, st⟩
  · cases hv
    obtain ⟨k1, k2, k3⟩ := vx_keep h0 e1 hS hA hf hL hF
    obtain ⟨t2, a1, b1⟩ := kk u t T'.heap (locs ++ L) e1.symm (by rw [← e2]; exact X'.warmed.alike) hp hb k1 k2 k3 T' rfl X'
    exact ⟨t2, st t2 a1, b1⟩
  · obtain ⟨k1, k2, k3⟩ := vx_keep h0 e1 hS hAX hf hL hF
    obtain ⟨t2, a1, b1⟩ := kx E ce q u t T'.heap (locs ++ L) e1.symm (by rw [← e2]; exact X'.warmed.alike) hp hb k1 k2 k3 (by rw [e1]; exact hce) hcv hcl T' rfl X'
    exact ⟨t2, st.trans a1, b1⟩
/-- caught by the row x of this method's table; the rows ahead don't take it -/
theorem vx_catch {own name : String} {E : String} {ce : Cell} {q : Addr} (hown : s.vm.findClass own = some m.cls) (pre : List ExceptionTableEntry) (x : ExceptionTableEntry) (suf : List ExceptionTableEntry) (hsplit : c.exceptionTable.toList = pre ++ x :: suf)
    (hpass : ∀ z ∈ pre, covers z pc = false ∨ (z.catchType ≠ 0 ∧ ∃ nm : String, (Cond.classLink own z.catchType nm).before args s = true ∧ va_Nc E nm s)) (hx : covers x pc = true) (h0 : x.catchType ≠ 0)
    (hlink : (Cond.classLink own x.catchType name).before args s = true) (hcast : (Cond.castable E name).before args s = true) (hcell : H[q]? = some ce) (hv : ce.vm = .none) (hcl : s.vm.findClass E = some ce.cls)
    (kk : W p l e R s m args below meth c H locs cells slots Q (F0 m x.handlerPc ls [.ref q])) : vx_W p l e R s m args below meth c H locs cells slots Q (F0 m pc ls rest) q := by
  intro T hT X
  have hpl : e.platform.magicAccessors = ({} : Platform).magicAccessors := by rw [X.admits.platform]
  obtain ⟨c3, c4, hc3, hc4, hasg⟩ := Cond.castable_spec hcast
  cases Option.some.inj (hc3.symm.trans hcl)
  obtain ⟨c5, hc5, hcl5⟩ := Cond.classLink_spec hown hlink e.platform hpl
  cases Option.some.inj (hc4.symm.trans hc5)
  obtain ⟨vm', X', st⟩ := X.thenCaughtThrough q (g := F0 m pc ls rest) rfl (Steps.refl _) (by rw [hT]; exact hcell) (by rw [hv]; rfl) (by obtain ⟨k9, h9, -⟩ := Vm.findClass_spec hcl; exact ⟨k9, h9⟩) pre x suf hsplit
    (fun z hz => by
      rcases hpass z hz with h | ⟨hz0, nm, hl1, hn1⟩
      · exact Or.inl h
      · obtain ⟨c6, hc6, hcl6⟩ := Cond.classLink_spec hown hl1 e.platform hpl
        obtain ⟨a8, b8, h1, h2, h3⟩ := hn1
        cases Option.some.inj (h1.symm.trans hcl)
        cases Option.some.inj (h2.symm.trans hc6)
        exact Or.inr ⟨hz0, _, hcl6, h3⟩) hx (Or.inr ⟨h0, c4, hcl5, hasg⟩)
  obtain ⟨t, a1, b1⟩ := kk (T.setVm vm') hT X'
  exact ⟨t, st.trans a1, b1⟩
end Rows
section Ends
variable {p : Program} {l : Launch} {e : Env} {R : Room} {s : State} {m : MethodId} {args : Array Value} {below : List Frame} {meth : Method} {c : Code} {H : Heap} {locs : List Loc} {cells slots : Nat} {Q : State → Prop}
variable {mc ms : Nat} {free : Addr → Prop} {A0 A1 : Nat → Prop} {H0 : Heap} {a : Array Value} {ls : Array Slot} {st0 rest : List Value}
variable {Qc : Array Value → State → Outcome → State → Prop} {XC : String → State → State → Prop}
/-- what a body that may throw owes at its end -/
def vx_MQ (below : List Frame) (Qc : Array Value → State → Outcome → State → Prop) (XC : String → State → State → Prop) (a : Array Value) (s : State) (mc ms : Nat) (free : Addr → Prop) : State → Prop := fun t =>
  ∃ o, t.status = .running ∧ Ended t below o ∧ vx_Q Qc XC mc ms free a s o t
theorem vx_ret {g : JFrame} {mc ms : Nat} (k : W p l e R s m args below meth c H locs cells slots (MQ below Qc args s mc ms free) g) : W p l e R s m args below meth c H locs cells slots (vx_MQ below Qc XC args s mc ms free) g := by
  intro T hT X
  obtain ⟨t, a1, o, b1, b2, b3, b4⟩ := k T hT X
  exact ⟨t, a1, o, b1, b2, Or.inl ⟨b3, b4⟩⟩
/-- not caught here: it goes on to the caller -/
theorem vx_widen {g : JFrame} {q : Addr} {k n : Nat} (h1 : cells ≤ k) (h2 : slots ≤ n) (kk : vx_W p l e R s m args below meth c H locs k n Q g q) : vx_W p l e R s m args below meth c H locs cells slots Q g q := fun T hT X => kk T hT (stand_widen X h1 h2)
theorem vx_out {pc : Nat} {E : String} {ce : Cell} {q : Addr} {mc ms : Nat} (hout : ∀ x ∈ c.exceptionTable.toList, covers x pc = false) (hlocks : meth.locks = false) (hcell : H[q]? = some ce) (hv : ce.vm = .none) (hcl : s.vm.findClass E = some ce.cls)
    (hx : ∀ t : State, t.heap = H → s.vm.Alike t.vm → XC E s t) (hf : ∀ z ∈ locs, free z.base) (hc : cells ≤ mc) (hs : slots ≤ ms) :
    vx_W p l e R s m args below meth c H locs cells slots (vx_MQ below Qc XC args s mc ms free) (F0 m pc ls rest) q := by
  intro T hT X
  obtain ⟨st1, hrun, hend, hW, hsm⟩ := X.leaveThrown q (g := F0 m pc ls rest) rfl rfl rfl hout hlocks
  have hcell9 : (T.setFrames (.throwing q :: below)).heap[q]? = some ce := by
    show T.heap[q]? = some ce
    rw [hT]; exact hcell
  exact ⟨_, st1, .threw q, hrun, hend, Or.inr ⟨q, rfl, E, ce, locs, hx _ hT hW.alike, hcell9, hv, hcl, hW, hsm.mono hc hs, hf⟩⟩
theorem vx_frame {U : State} {k n : Nat} (h : s.sameButNew ({ U with vm := s.vm } : State) locs k n) : s.heap.size ≤ U.heap.size ∧ ∀ q : Nat, q < s.heap.size → (∀ z ∈ locs, z.base ≠ q) → U.heap[q]? = s.heap[q]? := by
  obtain ⟨-, h2, -, -, -, h6⟩ := h
  refine ⟨h2, fun q hq hz => ?_⟩
  obtain ⟨c9, e1, e2, e3, e4⟩ := h6 q _ (Array.getElem?_eq_getElem hq)
  have hs : c9.slots = (s.heap[q]).slots := Array.ext_getElem? fun i => e4 i fun hm => hz _ hm rfl
  have h9 : c9 = s.heap[q] := by
    rw [hs] at e2
    exact e2
  have e5 : U.heap[q]? = some c9 := e1
  rw [e5, h9, Array.getElem?_eq_getElem hq]
/-- the words of a throw but the four that speak of the heap -/
def vx_no (w : Cond) : Bool := decide (w ≠ .isRef (.static Bundle.tN "UNASSIGNED_STACK" Bundle.steD)) && decide (w ≠ .isRef (.static Bundle.tN "SUPPRESSED_SENTINEL" Bundle.listD)) && decide (w ≠ .laysStatic Bundle.tN "UNASSIGNED_STACK" Bundle.steD) && decide (w ≠ .laysStatic Bundle.tN "SUPPRESSED_SENTINEL" Bundle.listD)
def vx_at0 (own : String) (ic : Nat) (X : String) (names : List String) : List Cond := (Bundle.ownAtoms0 own ic X names).filter vx_no
def vx_atS (own : String) (ic : Nat) (X : String) (names : List String) : List Cond := (Bundle.ownAtoms own ic X names).filter vx_no
/-- a word that the tables alone decide, or a good one -/
def vx_ot (w : Cond) : Bool := w.onTables || goodWord w
theorem vx_ot_at {args a' : Array Value} {s U : State} {w : Cond} (hW : s.WarmedH U.vm) (hvm : s.vm = U.vm) (hg : vx_ot w = true) (h : w.before args s = true) : w.before a' U = true := by
  simp only [vx_ot, Bool.or_eq_true] at hg
  rcases hg with hg | hg
  · exact va_tabs hg hvm h
  · exact word_at hW (good_of_word hg) h
/-- a list's words: the good ones out of the method's own list, the others by premises of their own -/
theorem vx_hat {args : Array Value} {s : State} {L B : List Cond} (h1 : ∀ w ∈ L.filter goodWord, w.before args s = true) (h2 : ∀ w ∈ L.filter (fun w => !goodWord w), w ∈ B) (h3 : ∀ w ∈ B, w.before args s = true) : ∀ w ∈ L, w.before args s = true := by
  intro w hw
  by_cases g : goodWord w = true
  · exact h1 w (List.mem_filter.mpr ⟨hw, g⟩)
  · refine h3 w (h2 w (List.mem_filter.mpr ⟨hw, ?_⟩))
    show (!goodWord w) = true
    cases hgw : goodWord w
    · rfl
    · exact absurd hgw g
theorem vx_c {args : Array Value} {s : State} {w : Cond} {B : List Cond} (h : w.before args s = true) (t : ∀ w ∈ B, w.before args s = true) : ∀ w' ∈ w :: B, w'.before args s = true := fun w' h' => (List.mem_cons.mp h').elim (fun e => by rw [e]; exact h) (t w')
theorem vx_n {args : Array Value} {s : State} : ∀ w ∈ ([] : List Cond), w.before args s = true := fun _ h => nomatch h
theorem vx_own {args : Array Value} {s : State} {L : List Cond} (h1 : ∀ w ∈ L.filter vx_no, w.before args s = true)
    (hU : (Cond.isRef (.static Bundle.tN "UNASSIGNED_STACK" Bundle.steD)).before args s = true) (hN : (Cond.isRef (.static Bundle.tN "SUPPRESSED_SENTINEL" Bundle.listD)).before args s = true)
    (lU : (Cond.laysStatic Bundle.tN "UNASSIGNED_STACK" Bundle.steD).before args s = true) (lN : (Cond.laysStatic Bundle.tN "SUPPRESSED_SENTINEL" Bundle.listD).before args s = true) : ∀ w ∈ L, w.before args s = true := by
  intro w hw
  by_cases e1 : w = .isRef (.static Bundle.tN "UNASSIGNED_STACK" Bundle.steD)
  · rw [e1]; exact hU
  · by_cases e2 : w = .isRef (.static Bundle.tN "SUPPRESSED_SENTINEL" Bundle.listD)
    · rw [e2]; exact hN
    · by_cases e3 : w = .laysStatic Bundle.tN "UNASSIGNED_STACK" Bundle.steD
      · rw [e3]; exact lU
      · by_cases e4 : w = .laysStatic Bundle.tN "SUPPRESSED_SENTINEL" Bundle.listD
        · rw [e4]; exact lN
        · exact h1 w (List.mem_filter.mpr ⟨hw, by unfold vx_no; rw [decide_eq_true e1, decide_eq_true e2, decide_eq_true e3, decide_eq_true e4]; rfl⟩)
/-- where a static field lies, its class's statics cell in H -/
def vx_L (C n d : String) (A : Nat → Prop) (U : State) (H : Heap) : Prop := ∃ (c : ClassId) (k : Class) (i : Nat) (f : Field) (a : Nat) (cell : Cell), U.vm.findClass C = some c ∧ U.fieldFound? C n d = some (c, k, i, f) ∧ f.isStatic = true ∧ k.statics = some a ∧ H[a]? = some cell ∧ cell.vm.isStatics = true ∧ cell.cls = c ∧ f.slot < cell.slots.size ∧ k.staticTypes[f.slot]? = some f.type ∧ ¬ A a
theorem vx_L.moved {C n d : String} {A : Nat → Prop} {u U : State} {H : Heap} (hvm : u.vm.Alike U.vm) (h : vx_L C n d A u H) : vx_L C n d A U H := by
  obtain ⟨c, k, i, f, a, cell, h1, h2, h3, h4, h5, h6, h7, h8, h9, h10⟩ := h
  obtain ⟨k', hi', he⟩ := State.fieldFound?_setVm hvm h2
  exact ⟨c, k', i, f, a, cell, by rw [hvm.findClass]; exact h1, hi', h3, by rw [he]; exact h4, h5, h6, h7, h8, by rw [he]; exact h9, h10⟩
theorem vx_L.kept {C n d : String} {A : Nat → Prop} {U : State} {H H1 : Heap} (h : vx_L C n d A U H) (hq : ∀ a : Nat, a < H.size → ¬ A a → H1[a]? = H[a]?) : vx_L C n d A U H1 := by
  obtain ⟨c, k, i, f, a, cell, h1, h2, h3, h4, h5, h6, h7, h8, h9, h10⟩ := h
  exact ⟨c, k, i, f, a, cell, h1, h2, h3, h4, by rw [hq a (Array.getElem?_eq_some_iff.mp h5).1 h10]; exact h5, h6, h7, h8, h9, h10⟩
theorem vx_L.narrow {C n d : String} {A B : Nat → Prop} {U : State} {H : Heap} (h : vx_L C n d A U H) (hAB : ∀ q, B q → A q) : vx_L C n d B U H := by
  obtain ⟨c, k, i, f, a, cell, h1, h2, h3, h4, h5, h6, h7, h8, h9, h10⟩ := h
  exact ⟨c, k, i, f, a, cell, h1, h2, h3, h4, h5, h6, h7, h8, h9, fun z => h10 (hAB _ z)⟩
theorem vx_L.word {C n d : String} {A : Nat → Prop} {s : State} {args : Array Value} (h : vx_L C n d A s s.heap) : (Cond.laysStatic C n d).before args s = true := by
  obtain ⟨c, k, i, f, a, cell, h1, h2, h3, h4, h5, h6, h7, h8, h9, -⟩ := h
  show (Cond.laysStatic C n d).holds args s none s [] = true
  exact Cond.laysStatic_of h1 h2 h3 h4 h5 h6 h7 h8 h9
/-- .. and what it holds: null or some reference -/
def vx_Zq (C n d : String) (A : Nat → Prop) (U : State) (H : Heap) : Prop := va_Zq C n d A U H ∧ vx_L C n d A U H
theorem vx_Zq.moved {C n d : String} {A : Nat → Prop} {u U : State} {H : Heap} (hvm : u.vm.Alike U.vm) (h : vx_Zq C n d A u H) : vx_Zq C n d A U H := ⟨va_Zq.moved hvm h.1, vx_L.moved hvm h.2⟩
theorem vx_Zq.kept {C n d : String} {A : Nat → Prop} {U : State} {H H1 : Heap} (h : vx_Zq C n d A U H) (hq : ∀ a : Nat, a < H.size → ¬ A a → H1[a]? = H[a]?) : vx_Zq C n d A U H1 := ⟨va_Zq.kept h.1 hq, vx_L.kept h.2 hq⟩
theorem vx_Zq.narrow {C n d : String} {A B : Nat → Prop} {U : State} {H : Heap} (h : vx_Zq C n d A U H) (hAB : ∀ q, B q → A q) : vx_Zq C n d B U H := ⟨va_Zq.narrow h.1 hAB, vx_L.narrow h.2 hAB⟩
theorem vx_Zqof {args : Array Value} {s : State} {C n d : String} {A : Nat → Prop} (hl : (Cond.laysStatic C n d).before args s = true) (hini : (Cond.initialized C).before args s = true) (h : (Cond.isRef (.static C n d)).before args s = true) (hA : ∀ a : Nat, a < s.heap.size → ¬ A a) : vx_Zq C n d A s s.heap := by
  refine ⟨va_Zqof hl hini h hA, ?_⟩
  obtain ⟨c, k, i, f, a, cell, h1, h2, h3, h4, h5, h6, h7, h8, h9⟩ := Cond.laysStatic_spec hl
  exact ⟨c, k, i, f, a, cell, h1, h2, h3, h4, h5, h6, h7, h8, h9, hA a (Array.getElem?_eq_some_iff.mp h5).1⟩
theorem vx_isRef {C n d : String} {v : Value} {A : Nat → Prop} {s : State} {args : Array Value} (h : va_Z C n d v A s s.heap) (hv : v.isRef = true) : (Cond.isRef (.static C n d)).before args s = true := by
  obtain ⟨cf, kf, fi, f, a, cell, h1, h2, h3, h4, h5, h6, h7, -⟩ := h
  have he : (Term.static C n d).eval args s none [] s = some v := by
    simp [Term.eval, State.fieldNamed?, h1, h2, h4, h5, h6, h7]
  simp only [Cond.before, Cond.holds, Cond.value, he]
  cases v <;> simp_all [Value.isRef]
theorem vx_isRefq {C n d : String} {A : Nat → Prop} {s : State} {args : Array Value} (h : va_Zq C n d A s s.heap) : (Cond.isRef (.static C n d)).before args s = true := by
  rcases h with h | ⟨t, h⟩
  · exact vx_isRef h rfl
  · exact vx_isRef h rfl
/-- the same frame, seen from here: as if the method were called anew in this heap -/
theorem vx_rebase {T : State} (X : Stand p l e R s m args below meth c T locs cells slots) {R' : Room} (hf : R'.frames ≤ R.frames) (hl : R'.locals ≤ R.locals) (hc : cells + R'.cells ≤ R.cells) (hs : slots + R'.slots ≤ R.slots) :
    Stand p l e R' ((T.setVm s.vm).setFrames (.invoking m args :: below)) m args below meth c T [] 0 0 := by
  have htop : (T.setVm s.vm).topJava?.isSome := X.here.top
  have hF : ((T.setVm s.vm).setFrames (.invoking m args :: below)).frames = .invoking m args :: below := State.frames_setFrames _ (State.cur_lt_of_top htop)
  obtain ⟨g₀, hg0⟩ := Option.isSome_iff_exists.mp htop
  obtain ⟨r, hr⟩ := State.topJava?_eq_some.mp hg0
  have hl9 : e.platform.stackLimits (T.setVm s.vm).me = e.platform.stackLimits s.me := X.limits
  have hb9 : (T.setVm s.vm).me.stackBytes = s.me.stackBytes := X.bytes
  refine ⟨X.admits, X.cas, X.clock, hF, ?_, X.hears, X.method, X.code, X.here, X.tail, X.warmed, ?_, ?_, ?_⟩
  · have h := X.room
    have hU : ((T.setVm s.vm).setFrames (.invoking m args :: below)).localsInUse = s.localsInUse := by
      rw [State.localsInUse_invoking hF (meth := meth) (c := c) X.method X.code, State.localsInUse_invoking X.frames X.method X.code]
    simp only [State.hasRoom, Bool.and_eq_true, decide_eq_true_eq] at h ⊢
    obtain ⟨⟨⟨⟨h1, h2, h3, h4, h5, h6⟩, h7⟩, h8⟩, h9⟩ := h
    rw [X.frames, List.length_cons] at h2 h3
    have q1 := X.heapSize
    have q2 := X.used
    simp only [hF, hU, List.length_cons, State.stackLimits_setFrames, State.stackBytes_setFrames, hl9, hb9]
    refine ⟨⟨⟨⟨by omega, by omega, by omega, by omega, by omega, h6⟩, ?_⟩, ?_⟩, X.book⟩
    · show T.heap.size + R'.cells ≤ e.platform.maxCells
      omega
    · show T.slotsUsed + R'.slots ≤ e.platform.maxSlots
      omega
  · rw [State.stackLimits_setFrames]; rfl
  · rw [State.stackBytes_setFrames]; rfl
  · refine ⟨?_, Nat.le_refl _, Nat.le_refl _, ?_, ?_, fun a c9 h9 => ⟨c9, h9, rfl, rfl, fun _ _ => rfl⟩⟩
    · obtain ⟨t, ht, -⟩ := State.frames_cons hr
      show T.setVm s.vm = { ((T.setVm s.vm).setFrames (.invoking m args :: below)).setFrames (T.setVm s.vm).frames with heap := T.heap, slotsUsed := T.slotsUsed }
      rw [State.setFrames_setFrames, State.setFrames_self ht]
      rfl
    · show T.slotsUsed = T.slotsUsed + ((T.heap.toList.drop T.heap.size).map (·.slots.size)).sum
      rw [List.drop_eq_nil_of_le (Nat.le_of_eq Array.length_toList)]
      rfl
    · show ((T.heap.toList.drop T.heap.size).map (·.slots.size)).sum ≤ 0
      rw [List.drop_eq_nil_of_le (Nat.le_of_eq Array.length_toList)]
      exact Nat.le_refl _
/-- 'throw new E()': new; dup; invokespecial; athrow -/
theorem vx_throw0 {cc : ByteArray} {pc : Nat} (hexec : p.tables.exec = Jvm.exec) (hb : c.code = cc) (hl : l.stackTraces = false) {own cls : String} {names : List String} {ik ic mc ms : Nat} {A : Nat → Prop}
    (hown : s.vm.findClass own = some m.cls) (hcls : Bundle.fit cls = true) (hnames : ∀ n ∈ names, Bundle.fit n = true)
    (hk : (Cond.classLink own ik cls).before args s = true) (hini : (Cond.initialized cls).before args s = true) (hat : ∀ w ∈ vx_at0 own ic cls names, w.before args s = true)
    (hgood : ∀ w ∈ Cond.classLink own ik cls :: Cond.initialized cls :: vx_at0 own ic cls names, vx_ot w = true)
    (hU : vx_Zq Bundle.tN "UNASSIGNED_STACK" Bundle.steD A s s.heap) (hN : vx_Zq Bundle.tN "SUPPRESSED_SENTINEL" Bundle.listD A s s.heap) (hS : va_S A s.heap H locs) (hsize : ls.size = c.maxLocals)
    (d0 : decode cc pc = .ok (.new ik, 3)) (d3 : decode cc (pc + 3) = .ok (.dup, 1)) (d4 : decode cc (pc + 4) = .ok (.invokespecial ic, 3)) (d7 : decode cc (pc + 7) = .ok (.athrow, 1))
    (hout : ∀ x ∈ c.exceptionTable.toList, covers x (pc + 7) = false)
    (hRframes : names.length + 3 < R.frames) (hRlocals : (rest.map fun v => v.category).sum + (13 * (names.length + 1) + 42) ≤ R.locals) (hRcells : cells + 1 ≤ R.cells) (hRslots : slots + 6 ≤ R.slots) (hlocks : meth.locks = false)
    (hx : ∀ t : State, s.vm.Alike t.vm → H.size ≤ t.heap.size → (∀ q : Nat, q < H.size → t.heap[q]? = H[q]?) → XC cls s t)
    (hf : ∀ z ∈ locs, free z.base) (hc : cells + 1 ≤ mc) (hs : slots + 6 ≤ ms) :
    W p l e R s m args below meth c H locs cells slots (vx_MQ below Qc XC args s mc ms free) (F0 m pc ls rest) := by
  intro T hT X
  have htr : e.platform.stackTraces = false := (show e.platform.stackTraces = l.stackTraces by rw [X.admits.platform]).trans hl
  have Y := vx_rebase X (R' := { frames := R.frames, locals := R.locals, cells := 1, slots := 6 }) (Nat.le_refl _) (Nat.le_refl _) hRcells hRslots
  obtain ⟨s', hA⟩ : ∃ z, z = (T.setVm s.vm).setFrames (.invoking m args :: below) := ⟨_, rfl⟩
  rw [← hA] at Y
  have hvm : s'.vm = s.vm := by rw [hA]; rfl
  have hhp : s'.heap = H := by rw [hA]; exact hT
  have hW0 : s.WarmedH s'.vm := by rw [hvm]; exact State.WarmedH.refl s
  have hat' : ∀ w ∈ vx_at0 own ic cls names, w.before args s' = true := fun w hw => vx_ot_at hW0 hvm.symm (hgood w (List.mem_cons_of_mem _ (List.mem_cons_of_mem _ hw))) (hat w hw)
  have hk' : (Cond.classLink own ik cls).before args s' = true := vx_ot_at hW0 hvm.symm (hgood _ List.mem_cons_self) hk
  have hini' : (Cond.initialized cls).before args s' = true := vx_ot_at hW0 hvm.symm (hgood _ (List.mem_cons_of_mem _ List.mem_cons_self)) hini
  have hU' : vx_Zq Bundle.tN "UNASSIGNED_STACK" Bundle.steD A s' s'.heap := by rw [hhp]; exact vx_Zq.moved hW0.alike (hU.kept hS.2.1)
  have hN' : vx_Zq Bundle.tN "SUPPRESSED_SENTINEL" Bundle.listD A s' s'.heap := by rw [hhp]; exact vx_Zq.moved hW0.alike (hN.kept hS.2.1)
  have h : ∀ w ∈ Bundle.ownAtoms0 own ic cls names, w.before args s' = true := vx_own hat' (vx_isRefq hU'.1) (vx_isRefq hN'.1) hU'.2.word hN'.2.word
  have hown' : s'.vm.findClass own = some m.cls := by rw [hvm]; exact hown
  have hins : (Cond.instantiable cls 6).before args s' = true := h _ (by simp [Bundle.ownAtoms0])
  obtain ⟨vm₁, cX, kX, hfX, hkX, -, -, X₁, st1⟩ := Y.newCold hexec (own := own) (C := cls) (index := ik) (n := 6) hown' hk' hins hini'
    (g := F0 m pc ls rest) rfl (by rw [hb]; exact d0) (Nat.le_refl _) (Nat.le_refl _)
  generalize hT1 : (T.setVm vm₁).pushCell { cls := cX, slots := kX.instanceTypes.map defaultValue, vm := .none } = T1 at X₁ st1
  have hcat : (Value.ref T.heap.size).category = 1 := rfl
  have hcellA : T1.heap[T.heap.size]? = some (freshCell cX kX) := by rw [← hT1]; exact State.heap_pushCell_size _ _
  have d3' : decode c.code (pc + 3) = .ok (.dup, 1) := by rw [hb]; exact d3
  obtain ⟨U, hsteps, hrun, hend, hW, hsame, ce, hce, hO⟩ := X₁.ctorThrow0 hexec htr (own := own) (cls := cls) (names := names) (ic := ic) hown' hcls hnames h (fun x hx => nomatch hx) hfX hkX hcellA (by rw [hhp, hT]; exact Nat.le_refl _)
    (g := { method := m, pc := pc + 4, locals := ls, stack := .ref T.heap.size :: .ref T.heap.size :: rest, locked := none }) rfl hsize rfl rfl (rest := rest) rfl
    (by rw [hb]; exact d4) (by rw [hb]; exact d7) hout hRframes (by simp only [List.map_cons, List.sum_cons, hcat]; omega) hlocks
  obtain ⟨f1, f2⟩ := vx_frame hsame
  rw [hhp] at f1 f2
  have hWs : s.WarmedH U.vm := State.WarmedH.trans hW0 hW
  have hcl : s.vm.findClass cls = some ce.cls := by
    have h9 := hO.cls
    rw [hvm] at h9
    exact h9
  have hall : s.sameButNew ({ U with vm := s.vm } : State) locs mc ms := by
    subst hA
    obtain ⟨e1, e2⟩ := hsame
    rw [State.setFrames_setFrames] at e1
    have h2 : (T.setVm s.vm).sameButNew ({ U with vm := s.vm } : State) [] (0 + 1) (0 + 6) := ⟨e1, e2⟩
    have h3 := X.same.trans h2
    rw [List.append_nil] at h3
    exact h3.mono hc hs
  refine ⟨U, ?_, .threw T.heap.size, hrun, hend, Or.inr ⟨T.heap.size, rfl, cls, ce, locs, hx U hWs.alike f1 (fun q hq => f2 q hq (fun z hz => nomatch hz)), hce, hO.vm, hcl, hWs, hall, hf⟩⟩
  refine st1 _ ?_
  show Steps p.tables e below (T1.setTop { method := m, pc := pc + 3, locals := ls, stack := .ref T.heap.size :: rest, locked := none }) _
  jvm_step X₁.here [X₁.here.top, hexec, d3', Value.category]
  exact hsteps
/-- 'throw new E("text")': new; dup; ldc; invokespecial; athrow -/
theorem vx_throwS {cc : ByteArray} {pc : Nat} (hexec : p.tables.exec = Jvm.exec) (hb : c.code = cc) (hl : l.stackTraces = false) {own cls text : String} {names : List String} {ik is ic mc ms sa : Nat} {A : Nat → Prop}
    (hown : s.vm.findClass own = some m.cls) (hcls : Bundle.fit cls = true) (hnames : ∀ n ∈ names, Bundle.fit n = true)
    (hk : (Cond.classLink own ik cls).before args s = true) (hini : (Cond.initialized cls).before args s = true) (hstr : vk_R own is text sa s) (hat : ∀ w ∈ vx_atS own ic cls names, w.before args s = true)
    (hgood : ∀ w ∈ Cond.classLink own ik cls :: Cond.initialized cls :: vx_atS own ic cls names, vx_ot w = true)
    (hU : vx_Zq Bundle.tN "UNASSIGNED_STACK" Bundle.steD A s s.heap) (hN : vx_Zq Bundle.tN "SUPPRESSED_SENTINEL" Bundle.listD A s s.heap) (hS : va_S A s.heap H locs) (hsize : ls.size = c.maxLocals)
    (d0 : decode cc pc = .ok (.new ik, 3)) (d3 : decode cc (pc + 3) = .ok (.dup, 1)) (d4 : decode cc (pc + 4) = .ok (.ldc is, 2)) (d6 : decode cc (pc + 6) = .ok (.invokespecial ic, 3)) (d9 : decode cc (pc + 9) = .ok (.athrow, 1))
    (hout : ∀ x ∈ c.exceptionTable.toList, covers x (pc + 9) = false)
    (hRframes : names.length + 3 < R.frames) (hRlocals : (rest.map fun v => v.category).sum + (13 * (names.length + 1) + 43) ≤ R.locals) (hRcells : cells + 1 ≤ R.cells) (hRslots : slots + 6 ≤ R.slots) (hlocks : meth.locks = false)
    (hx : ∀ t : State, s.vm.Alike t.vm → H.size ≤ t.heap.size → (∀ q : Nat, q < H.size → t.heap[q]? = H[q]?) → XC cls s t)
    (hf : ∀ z ∈ locs, free z.base) (hc : cells + 1 ≤ mc) (hs : slots + 6 ≤ ms) :
    W p l e R s m args below meth c H locs cells slots (vx_MQ below Qc XC args s mc ms free) (F0 m pc ls rest) := by
  intro T hT X
  have htr : e.platform.stackTraces = false := (show e.platform.stackTraces = l.stackTraces by rw [X.admits.platform]).trans hl
  have Y := vx_rebase X (R' := { frames := R.frames, locals := R.locals, cells := 1, slots := 6 }) (Nat.le_refl _) (Nat.le_refl _) hRcells hRslots
  obtain ⟨s', hA⟩ : ∃ z, z = (T.setVm s.vm).setFrames (.invoking m args :: below) := ⟨_, rfl⟩
  rw [← hA] at Y
  have hvm : s'.vm = s.vm := by rw [hA]; rfl
  have hhp : s'.heap = H := by rw [hA]; exact hT
  have hW0 : s.WarmedH s'.vm := by rw [hvm]; exact State.WarmedH.refl s
  have hat' : ∀ w ∈ vx_atS own ic cls names, w.before args s' = true := fun w hw => vx_ot_at hW0 hvm.symm (hgood w (List.mem_cons_of_mem _ (List.mem_cons_of_mem _ hw))) (hat w hw)
  have hk' : (Cond.classLink own ik cls).before args s' = true := vx_ot_at hW0 hvm.symm (hgood _ List.mem_cons_self) hk
  have hini' : (Cond.initialized cls).before args s' = true := vx_ot_at hW0 hvm.symm (hgood _ (List.mem_cons_of_mem _ List.mem_cons_self)) hini
  have hU' : vx_Zq Bundle.tN "UNASSIGNED_STACK" Bundle.steD A s' s'.heap := by rw [hhp]; exact vx_Zq.moved hW0.alike (hU.kept hS.2.1)
  have hN' : vx_Zq Bundle.tN "SUPPRESSED_SENTINEL" Bundle.listD A s' s'.heap := by rw [hhp]; exact vx_Zq.moved hW0.alike (hN.kept hS.2.1)
  have h : ∀ w ∈ Bundle.ownAtoms own ic cls names, w.before args s' = true := vx_own hat' (vx_isRefq hU'.1) (vx_isRefq hN'.1) hU'.2.word hN'.2.word
  have hown' : s'.vm.findClass own = some m.cls := by rw [hvm]; exact hown
  have hins : (Cond.instantiable cls 6).before args s' = true := h _ (by simp [Bundle.ownAtoms])
  obtain ⟨vm₁, cX, kX, hfX, hkX, -, -, X₁, st1⟩ := Y.newCold hexec (own := own) (C := cls) (index := ik) (n := 6) hown' hk' hins hini'
    (g := F0 m pc ls rest) rfl (by rw [hb]; exact d0) (Nat.le_refl _) (Nat.le_refl _)
  generalize hT1 : (T.setVm vm₁).pushCell { cls := cX, slots := kX.instanceTypes.map defaultValue, vm := .none } = T1 at X₁ st1
  have hcat : (Value.ref T.heap.size).category = 1 := rfl
  have hcellA : T1.heap[T.heap.size]? = some (freshCell cX kX) := by rw [← hT1]; exact State.heap_pushCell_size _ _
  have d3' : decode c.code (pc + 3) = .ok (.dup, 1) := by rw [hb]; exact d3
  have d4' : decode c.code (pc + 4) = .ok (.ldc is, 2) := by rw [hb]; exact d4
  have hstr' : vk_R own is text sa s' := vk_R.warm hW0 hstr
  obtain ⟨U, hsteps, hrun, hend, hW, hsame, ce, hce, hO⟩ := X₁.ctorThrowS hexec htr (own := own) (cls := cls) (names := names) (ic := ic) hown' hcls hnames h (fun x hx => nomatch hx) hfX hkX hcellA (by rw [hhp, hT]; exact Nat.le_refl _) (msg := .ref sa) rfl
    (g := { method := m, pc := pc + 6, locals := ls, stack := .ref sa :: .ref T.heap.size :: .ref T.heap.size :: rest, locked := none }) rfl hsize rfl rfl (rest := rest) rfl
    (by rw [hb]; exact d6) (by rw [hb]; exact d9) hout hRframes (by simp only [List.map_cons, List.sum_cons, hcat]; omega) hlocks
  obtain ⟨f1, f2⟩ := vx_frame hsame
  rw [hhp] at f1 f2
  have hWs : s.WarmedH U.vm := State.WarmedH.trans hW0 hW
  have hcl : s.vm.findClass cls = some ce.cls := by
    have h9 := hO.cls
    rw [hvm] at h9
    exact h9
  have hall : s.sameButNew ({ U with vm := s.vm } : State) locs mc ms := by
    subst hA
    obtain ⟨e1, e2⟩ := hsame
    rw [State.setFrames_setFrames] at e1
    have h2 : (T.setVm s.vm).sameButNew ({ U with vm := s.vm } : State) [] (0 + 1) (0 + 6) := ⟨e1, e2⟩
    have h3 := X.same.trans h2
    rw [List.append_nil] at h3
    exact h3.mono hc hs
  refine ⟨U, ?_, .threw T.heap.size, hrun, hend, Or.inr ⟨T.heap.size, rfl, cls, ce, locs, hx U hWs.alike f1 (fun q hq => f2 q hq (fun z hz => nomatch hz)), hce, hO.vm, hcl, hWs, hall, hf⟩⟩
  refine st1 _ ?_
  show Steps p.tables e below (T1.setTop { method := m, pc := pc + 3, locals := ls, stack := .ref T.heap.size :: rest, locked := none }) _
  jvm_step X₁.here [X₁.here.top, hexec, d3', Value.category]
  exact X₁.ldcString hexec (own := own) (text := text) (index := is) (a := sa) hown' hstr'.1 hstr'.2
    (g := { method := m, pc := pc + 4, locals := ls, stack := .ref T.heap.size :: .ref T.heap.size :: rest, locked := none }) rfl d4' _ hsteps
/-- 'throw new E("text")', the text by a wide index -/
theorem vx_throwSW {cc : ByteArray} {pc : Nat} (hexec : p.tables.exec = Jvm.exec) (hb : c.code = cc) (hl : l.stackTraces = false) {own cls text : String} {names : List String} {ik is ic mc ms sa : Nat} {A : Nat → Prop}
    (hown : s.vm.findClass own = some m.cls) (hcls : Bundle.fit cls = true) (hnames : ∀ n ∈ names, Bundle.fit n = true)
    (hk : (Cond.classLink own ik cls).before args s = true) (hini : (Cond.initialized cls).before args s = true) (hstr : vk_R own is text sa s) (hat : ∀ w ∈ vx_atS own ic cls names, w.before args s = true)
    (hgood : ∀ w ∈ Cond.classLink own ik cls :: Cond.initialized cls :: vx_atS own ic cls names, vx_ot w = true)
    (hU : vx_Zq Bundle.tN "UNASSIGNED_STACK" Bundle.steD A s s.heap) (hN : vx_Zq Bundle.tN "SUPPRESSED_SENTINEL" Bundle.listD A s s.heap) (hS : va_S A s.heap H locs) (hsize : ls.size = c.maxLocals)
    (d0 : decode cc pc = .ok (.new ik, 3)) (d3 : decode cc (pc + 3) = .ok (.dup, 1)) (d4 : decode cc (pc + 4) = .ok (.ldc_w is, 3)) (d7 : decode cc (pc + 7) = .ok (.invokespecial ic, 3)) (d10 : decode cc (pc + 10) = .ok (.athrow, 1))
    (hout : ∀ x ∈ c.exceptionTable.toList, covers x (pc + 10) = false)
    (hRframes : names.length + 3 < R.frames) (hRlocals : (rest.map fun v => v.category).sum + (13 * (names.length + 1) + 43) ≤ R.locals) (hRcells : cells + 1 ≤ R.cells) (hRslots : slots + 6 ≤ R.slots) (hlocks : meth.locks = false)
    (hx : ∀ t : State, s.vm.Alike t.vm → H.size ≤ t.heap.size → (∀ q : Nat, q < H.size → t.heap[q]? = H[q]?) → XC cls s t)
    (hf : ∀ z ∈ locs, free z.base) (hc : cells + 1 ≤ mc) (hs : slots + 6 ≤ ms) :
    W p l e R s m args below meth c H locs cells slots (vx_MQ below Qc XC args s mc ms free) (F0 m pc ls rest) := by
  intro T hT X
  have htr : e.platform.stackTraces = false := (show e.platform.stackTraces = l.stackTraces by rw [X.admits.platform]).trans hl
  have Y := vx_rebase X (R' := { frames := R.frames, locals := R.locals, cells := 1, slots := 6 }) (Nat.le_refl _) (Nat.le_refl _) hRcells hRslots
  obtain ⟨s', hA⟩ : ∃ z, z = (T.setVm s.vm).setFrames (.invoking m args :: below) := ⟨_, rfl⟩
  rw [← hA] at Y
  have hvm : s'.vm = s.vm := by rw [hA]; rfl
  have hhp : s'.heap = H := by rw [hA]; exact hT
  have hW0 : s.WarmedH s'.vm := by rw [hvm]; exact State.WarmedH.refl s
  have hat' : ∀ w ∈ vx_atS own ic cls names, w.before args s' = true := fun w hw => vx_ot_at hW0 hvm.symm (hgood w (List.mem_cons_of_mem _ (List.mem_cons_of_mem _ hw))) (hat w hw)
  have hk' : (Cond.classLink own ik cls).before args s' = true := vx_ot_at hW0 hvm.symm (hgood _ List.mem_cons_self) hk
  have hini' : (Cond.initialized cls).before args s' = true := vx_ot_at hW0 hvm.symm (hgood _ (List.mem_cons_of_mem _ List.mem_cons_self)) hini
  have hU' : vx_Zq Bundle.tN "UNASSIGNED_STACK" Bundle.steD A s' s'.heap := by rw [hhp]; exact vx_Zq.moved hW0.alike (hU.kept hS.2.1)
  have hN' : vx_Zq Bundle.tN "SUPPRESSED_SENTINEL" Bundle.listD A s' s'.heap := by rw [hhp]; exact vx_Zq.moved hW0.alike (hN.kept hS.2.1)
  have h : ∀ w ∈ Bundle.ownAtoms own ic cls names, w.before args s' = true := vx_own hat' (vx_isRefq hU'.1) (vx_isRefq hN'.1) hU'.2.word hN'.2.word
  have hown' : s'.vm.findClass own = some m.cls := by rw [hvm]; exact hown
  have hins : (Cond.instantiable cls 6).before args s' = true := h _ (by simp [Bundle.ownAtoms])
  obtain ⟨vm₁, cX, kX, hfX, hkX, -, -, X₁, st1⟩ := Y.newCold hexec (own := own) (C := cls) (index := ik) (n := 6) hown' hk' hins hini'
    (g := F0 m pc ls rest) rfl (by rw [hb]; exact d0) (Nat.le_refl _) (Nat.le_refl _)
  generalize hT1 : (T.setVm vm₁).pushCell { cls := cX, slots := kX.instanceTypes.map defaultValue, vm := .none } = T1 at X₁ st1
  have hcat : (Value.ref T.heap.size).category = 1 := rfl
  have hcellA : T1.heap[T.heap.size]? = some (freshCell cX kX) := by rw [← hT1]; exact State.heap_pushCell_size _ _
  have d3' : decode c.code (pc + 3) = .ok (.dup, 1) := by rw [hb]; exact d3
  have d4' : decode c.code (pc + 4) = .ok (.ldc_w is, 3) := by rw [hb]; exact d4
  have hstr' : vk_R own is text sa s' := vk_R.warm hW0 hstr
  obtain ⟨U, hsteps, hrun, hend, hW, hsame, ce, hce, hO⟩ := X₁.ctorThrowS hexec htr (own := own) (cls := cls) (names := names) (ic := ic) hown' hcls hnames h (fun x hx => nomatch hx) hfX hkX hcellA (by rw [hhp, hT]; exact Nat.le_refl _) (msg := .ref sa) rfl
    (g := { method := m, pc := pc + 7, locals := ls, stack := .ref sa :: .ref T.heap.size :: .ref T.heap.size :: rest, locked := none }) rfl hsize rfl rfl (rest := rest) rfl
    (by rw [hb]; exact d7) (by rw [hb]; exact d10) hout hRframes (by simp only [List.map_cons, List.sum_cons, hcat]; omega) hlocks
  obtain ⟨f1, f2⟩ := vx_frame hsame
  rw [hhp] at f1 f2
  have hWs : s.WarmedH U.vm := State.WarmedH.trans hW0 hW
  have hcl : s.vm.findClass cls = some ce.cls := by
    have h9 := hO.cls
    rw [hvm] at h9
    exact h9
  have hall : s.sameButNew ({ U with vm := s.vm } : State) locs mc ms := by
    subst hA
    obtain ⟨e1, e2⟩ := hsame
    rw [State.setFrames_setFrames] at e1
    have h2 : (T.setVm s.vm).sameButNew ({ U with vm := s.vm } : State) [] (0 + 1) (0 + 6) := ⟨e1, e2⟩
    have h3 := X.same.trans h2
    rw [List.append_nil] at h3
    exact h3.mono hc hs
  refine ⟨U, ?_, .threw T.heap.size, hrun, hend, Or.inr ⟨T.heap.size, rfl, cls, ce, locs, hx U hWs.alike f1 (fun q hq => f2 q hq (fun z hz => nomatch hz)), hce, hO.vm, hcl, hWs, hall, hf⟩⟩
  refine st1 _ ?_
  show Steps p.tables e below (T1.setTop { method := m, pc := pc + 3, locals := ls, stack := .ref T.heap.size :: rest, locked := none }) _
  jvm_step X₁.here [X₁.here.top, hexec, d3', Value.category]
  exact X₁.ldcStringW hexec (own := own) (text := text) (index := is) (a := sa) hown' hstr'.1 hstr'.2
    (g := { method := m, pc := pc + 4, locals := ls, stack := .ref T.heap.size :: .ref T.heap.size :: rest, locked := none }) rfl d4' _ hsteps
end Ends
section Bodies
variable {l : Launch}
theorem vx_ofW {y : MethodName} {ws ws' : List Cond} {rm : Room} {Pc : Array Value → State → Prop} {Qc : Array Value → State → Outcome → State → Prop} {XC : String → State → State → Prop} {mc ms : Nat} {free : Addr → Prop} {cc : ByteArray} {maxL : Nat} {ret : Option FieldType}
    (hy : plainName y.cls = true) (hw : ws = Cond.code y cc maxL ret :: ws')
    (body : ∀ p e s m args below meth c s₁, BodyLoose p l y (headSpec ws rm) cc maxL ret e s m args below meth c s₁ → c.maxLocals = maxL → (∀ x ∈ c.exceptionTable.toList, False) → Pc args s →
      W p l e (headSpec ws rm).room s m args below meth c s.heap [] 0 0 (vx_MQ below Qc XC args s mc ms free) (entryFrame m args maxL)) : vx_Met l y ws rm Pc Qc XC mc ms free := by
  refine MetFree.of_bodyS (code := cc) (maxLocals := maxL) (ret := ret) hy ?_ ?_
  · intro args s m h hn
    obtain ⟨meth, c, h1, h2, h3, h4, h5, h6, -, -⟩ := Cond.code_spec hn (atoms_spec (ws := ws) h _ (by rw [hw]; exact List.mem_cons_self))
    exact ⟨meth, c, h1, h2, h3, h4, h5, h6⟩
  · intro p e s m args below meth c s₁ B hml hP _
    have hh0 : s₁.heap = s.heap := by rw [B.state]; rfl
    have ht : ∀ x ∈ c.exceptionTable.toList, False := by
      obtain ⟨meth9, c9, h1, h2, -, -, -, -, h7, -⟩ := Cond.code_spec B.named (atoms_spec (ws := ws) B.pre _ (by rw [hw]; exact List.mem_cons_self))
      cases Option.some.inj (h1.symm.trans B.method)
      cases Option.some.inj (h2.symm.trans (Stand.of_body B).code)
      intro x hx
      rw [Array.isEmpty_iff.mp h7] at hx
      cases hx
    obtain ⟨t, a1, o, b1, b2, b3⟩ := body p e s m args below meth c s₁ B hml ht hP s₁ hh0 (Stand.of_body B)
    exact ⟨t, o, a1, b1, b2, b3⟩
/-- the table of a body with handlers -/
theorem vx_table {p : Program} {x y : MethodName} {S : Spec} {cc bytes : ByteArray} {maxL maxL' : Nat} {ret ret' : Option FieldType} {e : Env} {s s₁ : State} {m : MethodId} {args : Array Value} {below : List Frame} {meth : Method} {c : Code} {hh : List (Nat × Nat × Nat × Nat)}
    (B : BodyLoose p l y S cc maxL ret e s m args below meth c s₁) (h : (Cond.codeWith y bytes maxL' ret' hh).before args s = true) : c.exceptionTable.toList = tableOf hh := by
  obtain ⟨m9, meth9, c9, hn9, h1, h2, -, -, h6, -⟩ := Cond.codeWith_spec h
  cases Option.some.inj (hn9.symm.trans B.named)
  cases Option.some.inj (h1.symm.trans B.method)
  cases Option.some.inj (h2.symm.trans (Stand.of_body B).code)
  rw [← h6, table_eq]
end Bodies
end VXA
/-! ===== END ===== -/
/-! ===== BEGIN a static call of a method with an exception table ===== -/
section VXS
variable {p : Program} {l : Launch} {e : Env} {R : Room} {s : State} {m : MethodId} {args : Array Value} {below : List Frame} {meth : Method} {c : Code} {T : State} {H : Heap} {locs : List Loc} {cells slots : Nat}
abbrev vx_CSW (R : Room) (s : State) (args : Array Value) (own : String) (index : Nat) (y : MethodName) (bytes : ByteArray) (maxL : Nat) (ret : Option FieldType) (hh : List (Nat × Nat × Nat × Nat)) (ws : List Cond) (rm : Room) (mc ms n : Nat) : Prop :=
  (rm.cells = mc ∧ rm.slots = ms ∧ rm.frames + 1 ≤ R.frames ∧ 8 + (maxL + 11) + rm.locals ≤ R.locals ∧ (∀ w ∈ ws, ∀ (a' : Array Value) (U : State), s.WarmedH U.vm → w.before a' U = true) ∧ Cond.codeWith y bytes maxL ret hh ∈ ws) ∧
  (Cond.codeWith y bytes maxL ret hh).before args s = true ∧ (Cond.initialized y.cls).before args s = true ∧ (y.cls ≠ "java/lang/invoke/MethodHandle" ∧ y.cls ≠ "java/lang/invoke/VarHandle") ∧
  (∀ sig, parseMethodDescriptor y.desc = some sig → n = sig.parameters.length) ∧ (Cond.methodLink own index y).before args s = true ∧ (Cond.static y).before args s = true
theorem vx_cwSW {own : String} {index maxL mc ms : Nat} {y : MethodName} {bytes : ByteArray} {ret : Option FieldType} {hh : List (Nat × Nat × Nat × Nat)} {Ts ws ws' : List Cond} {rm : Room} (n : Nat) (ht : ∀ w ∈ Ts, w.before args s = true) (hT : GoodIn Ts (va_wsS own index y ws)) (hw : ws = Cond.codeWith y bytes maxL ret hh :: ws') (hrc : rm.cells = mc) (hrs : rm.slots = ms)
    (hd : y.cls ≠ "java/lang/invoke/MethodHandle" ∧ y.cls ≠ "java/lang/invoke/VarHandle" ∧ (parseMethodDescriptor y.desc).map (fun d => d.parameters.length) = some n) (hR : rm.frames + 1 ≤ R.frames ∧ 8 + (maxL + 11) + rm.locals ≤ R.locals) :
    vx_CSW R s args own index y bytes maxL ret hh ws rm mc ms n := by
  have ok : ∀ w ∈ va_wsS own index y ws, w.before args s = true := fun w h => ht w (hT w h).1
  have hG : GoodIn Ts ws := fun w h => hT w (by unfold va_wsS; exact List.mem_append_right _ h)
  have hc : Cond.codeWith y bytes maxL ret hh ∈ ws := by rw [hw]; exact List.mem_cons_self
  refine ⟨⟨hrc, hrs, hR.1, hR.2, pay_in ht hG, hc⟩, ht _ (hG _ hc).1, ok _ (by simp [va_wsS]), ⟨hd.1, hd.2.1⟩, fun sig h => ?_, ok _ (by simp [va_wsS]), ok _ (by simp [va_wsS])⟩
  have h2 := hd.2.2
  rw [h] at h2
  exact (Option.some.inj h2).symm
theorem vx_callSW (X : Stand p l e R s m args below meth c T locs cells slots) (hexec : p.tables.exec = Jvm.exec) {own : String} {index : Nat} {y : MethodName} {bytes : ByteArray} {maxL : Nat} {ret : Option FieldType} {hh : List (Nat × Nat × Nat × Nat)}
    (hown : s.vm.findClass own = some m.cls) (hlink : (Cond.methodLink own index y).before args s = true) (hstat : (Cond.static y).before args s = true) (hinit : (Cond.initialized y.cls).before args s = true)
    (hcode : (Cond.codeWith y bytes maxL ret hh).before args s = true) (hy : y.cls ≠ "java/lang/invoke/MethodHandle" ∧ y.cls ≠ "java/lang/invoke/VarHandle")
    {W9 : Nat} {Pre : Pt → Array Value → Prop} {Post : Pt → Array Value → Option Value → Pt → Prop} (hK : Back l R p e below s args y 3 W9 Pre Post)
    {g : JFrame} (hg : g.method = m) (hsize : g.locals.size = c.maxLocals) {argsL rest : List Value} (hlen : ∀ sig, parseMethodDescriptor y.desc = some sig → argsL.length = sig.parameters.length)
    (hstack : g.stack = argsL.reverse ++ rest) (hW : 2 * g.monitorRoom + (rest.map fun v => v.category).sum ≤ W9) (hdg : decode c.code g.pc = .ok (.invokestatic index, 3))
    (hpre : ∀ vm₁, s.WarmedH vm₁ → Pre ⟨T.setVm vm₁, locs, cells, slots⟩ argsL.toArray) :
    ∃ (v : Option Value) (vm₁ : Vm) (B : Pt), s.WarmedH vm₁ ∧ Stand p l e R s m args below meth c B.U B.locs B.cells B.slots ∧ Post ⟨T.setVm vm₁, locs, cells, slots⟩ argsL.toArray v B ∧
      ∀ target, Steps p.tables e below (B.U.setTop { g with pc := g.pc + 3, stack := v.toList ++ rest }) target → Steps p.tables e below (T.setTop g) target := by
  obtain ⟨mk, methM, cM, hnamed, hmethM, -, -, -, -, -, -, hsigM⟩ := Cond.codeWith_spec hcode
  have hstatic : methM.isStatic = true := Cond.static_spec hnamed hmethM hstat
  obtain ⟨kP, hkP, -⟩ := className_of_methodNamed hnamed
  have hinitP : kP.init = .initialized := Cond.initialized_spec (findClass_of_methodNamed hnamed) hkP hinit
  obtain ⟨vm₁, X₁, hstep₁⟩ := X.invokestatic hexec hown hlink hnamed hmethM hstatic hkP hinitP hy (g := g) hg (argsL := argsL) (rest := rest) (hlen _ hsigM) hstack hdg
  obtain ⟨v, B, X', hpost, hsteps⟩ := hK m meth c ⟨T.setVm vm₁, locs, cells, slots⟩ { g with stack := rest } (.invokestatic index) mk argsL.toArray X₁ hg hsize hdg hW (X₁.named hnamed) (hpre vm₁ X₁.warmed)
  exact ⟨v, vm₁, B, X₁.warmed, X', hpost, fun target h => hstep₁ _ fun acts => by rw [doInvoke_state]; exact hsteps.trans h⟩
theorem vx_runSW {y : MethodName} {bytes cc : ByteArray} {maxL nL mc ms n index : Nat} {ret : Option FieldType} {hh : List (Nat × Nat × Nat × Nat)} {ws : List Cond} {rm : Room} {Pc : Array Value → State → Prop} {Qc : Array Value → State → Outcome → State → Prop} {free : Addr → Prop} {Ts : List Cond} {own : String} {As rest : List Value} {g : JFrame}
    (S : CallFix p m c cc nL s args Ts own) (hM : Met l y ws rm Pc Qc mc ms free) (cw : vx_CSW R s args own index y bytes maxL ret hh ws rm mc ms n) (hp : PreS s H Pc As)
    (hg : g.method = m) (hn : As.length = n) (hsize : g.locals.size = nL) (hstack : g.stack = As.reverse ++ rest) (hW : 2 * g.monitorRoom + (rest.map fun v => v.category).sum ≤ 8) (hdg : decode cc g.pc = .ok (.invokestatic index, 3)) (hf : cells + mc ≤ R.cells ∧ slots + ms ≤ R.slots) :
    va_Run p l e R s m args below meth c H locs cells slots mc ms g rest (Qc As.toArray) (free) := by
  obtain ⟨⟨hrc, hrs, hfr, hlo, hws, hcw⟩, hcode, hini, hy, hlen, hl, hstt⟩ := cw
  have hK : Back l R p e below s args y 3 8 (PreOf R mc ms Pc) (PostOf Qc mc ms free) := va_backW (hh := hh) (bytes := bytes) (maxL := maxL) (ret := ret) hM hp.1 hrc hrs hfr hlo hws hcw (fun a' U hW => word_at hW (Or.inl (by first | rfl | simp [Cond.onTables, Cond.keeps, Cond.steady])) hini)
  obtain ⟨hx, hb, hml, ho, -⟩ := S
  intro T hT X
  obtain ⟨v, vm₁, ⟨U', l2, c2, s2⟩, hW₁, X', ⟨g', mk, t, L, e1, e2, hq, h1, hL, h2, h3⟩, st⟩ := vx_callSW X hx (hh := hh) (bytes := bytes) (maxL := maxL) (ret := ret) ho hl hstt hini hcode hy hK hg (hsize.trans hml.symm) (argsL := As) (rest := rest) (fun sig h => hn.trans (hlen sig h)) hstack hW (by rw [hb]; exact hdg)
    (fun vm₁ hW₁ => ⟨hf.1, hf.2, hp.2 (T.setVm vm₁) hT hW₁⟩)
  dsimp only [Pt.U, Pt.locs, Pt.cells, Pt.slots] at X' e1 e2 h1 h2 h3 st
  subst h1; subst h2; subst h3
  exact ⟨v, (T.setVm vm₁).calling g' mk As.toArray, t, U', L, hT, X', hL, e1, e2, hq, st⟩
/-- not caught here, past rows that name other classes: it goes on to the caller -/
theorem vx_outP {p : Program} {l : Launch} {e : Env} {R : Room} {s : State} {m : MethodId} {args : Array Value} {below : List Frame} {meth : Method} {c : Code} {H : Heap} {locs : List Loc} {cells slots : Nat} {free : Addr → Prop} {ls : Array Slot} {rest : List Value} {Qc : Array Value → State → Outcome → State → Prop} {XC : String → State → State → Prop}
    {pc : Nat} {own E : String} {ce : Cell} {q : Addr} {mc ms : Nat} (hown : s.vm.findClass own = some m.cls) (hlocks : meth.locks = false)
    (hpass : ∀ z ∈ c.exceptionTable.toList, covers z pc = false ∨ (z.catchType ≠ 0 ∧ ∃ nm : String, (Cond.classLink own z.catchType nm).before args s = true ∧ va_Nc E nm s)) (hcell : H[q]? = some ce) (hv : ce.vm = .none) (hcl : s.vm.findClass E = some ce.cls)
    (hx : ∀ t : State, t.heap = H → s.vm.Alike t.vm → XC E s t) (hf : ∀ z ∈ locs, free z.base) (hc : cells ≤ mc) (hs : slots ≤ ms) :
    vx_W p l e R s m args below meth c H locs cells slots (vx_MQ below Qc XC args s mc ms free) (F0 m pc ls rest) q := by
  intro T hT X
  have hpl : e.platform.magicAccessors = ({} : Platform).magicAccessors := by rw [X.admits.platform]
  obtain ⟨vm', hW', X', st⟩ := X.outThrough hlocks q (g := F0 m pc ls rest) rfl rfl rfl (cell := ce) (by rw [hT]; exact hcell) (by rw [hv]; rfl)
    (by obtain ⟨k9, h9, -⟩ := Vm.findClass_spec hcl; exact ⟨k9, h9⟩) (fun z hz => by
      rcases hpass z hz with h | ⟨hz0, nm, hl1, hn1⟩
      · exact Or.inl h
      · obtain ⟨c6, hc6, hcl6⟩ := Cond.classLink_spec hown hl1 e.platform hpl
        obtain ⟨a8, b8, h1, h2, h3⟩ := hn1
        cases Option.some.inj (h1.symm.trans hcl)
        cases Option.some.inj (h2.symm.trans hc6)
        exact Or.inr ⟨hz0, _, hcl6, h3⟩)
  obtain ⟨g₀, hfr⟩ := X'.frames_eq
  have hcell9 : ((T.setVm vm').setFrames (.throwing q :: below)).heap[q]? = some ce := by
    show T.heap[q]? = some ce
    rw [hT]; exact hcell
  have hend : Ended ((T.setVm vm').setFrames (.throwing q :: below)) below (.threw q) := State.frames_setFrames _ (State.cur_lt_of_frames hfr)
  refine ⟨(T.setVm vm').setFrames (.throwing q :: below), ?_, .threw q, X'.here.running, hend, Or.inr ⟨q, rfl, E, ce, locs, hx _ hT (X'.ends _).1.alike, hcell9, hv, hcl, (X'.ends _).1, (X'.ends _).2.mono hc hs, hf⟩⟩
  rw [X.pushThrowing_eq]
  exact st
/-- a thing of a world lies in the heap -/
theorem vx_lt {D : va_G} {cl : List vw_C} {ws : va_W} {H1 : Heap} (h : va_P D cl ws H1) {k : Nat} {q : Nat × va_E} (hk : ws[k]? = some q) : q.1 < H1.size := (h k q hk).lt
end VXS
/-! ===== END ===== -/
/-! ===== BEGIN methods with a table of their own: called by a name, returning or throwing ===== -/
section VXH
/-! vx_backW, vx_callVX, vx_callSX, vx_callVW, vx_runVW, vx_runVX, vx_runSX, vx_ofWH follow the same proofs as their sisters above (Free/Laws.lean, Shelf42/LK1.lean); vx_outP calls Shelf42/NT130.lean (outThrough). -/
section
variable {l : Launch} {R : Room} {p : Program} {e : Env} {below : List Frame} {s : State} {sargs : Array Value} {y : MethodName} {len W9 : Nat}
theorem vx_backW {ws : List Cond} {rm : Room} {Pc : Array Value → State → Prop} {Qc : Array Value → State → Outcome → State → Prop} {XC : String → State → State → Prop} {mc ms : Nat} {free : Addr → Prop} {bytes : ByteArray} {maxL : Nat} {ret : Option FieldType} {hh : List (Nat × Nat × Nat × Nat)}
    (hM : vx_Met l y ws rm Pc Qc XC mc ms free) (hblind : FrameBlind Pc) (hrc : rm.cells = mc) (hrs : rm.slots = ms)
    (hframes : rm.frames + 1 ≤ R.frames) (hlocals : W9 + (maxL + 11) + rm.locals ≤ R.locals)
    (hws : ∀ w ∈ ws, ∀ a' U, s.WarmedH U.vm → w.before a' U = true) (hcode : Cond.codeWith y bytes maxL ret hh ∈ ws) (hinit : ∀ a' U, s.WarmedH U.vm → (Cond.initialized y.cls).before a' U = true) :
    vx_Back l R p e below s sargs y len W9 (PreOf R mc ms Pc) (PostOf Qc mc ms free) (vx_Post XC mc ms free) := by
  intro m meth c A g ig mk a X hg hsize hdg hW hn hp
  have h1 : (headSpec ws rm).pre.before a A.U = true := atoms_intro fun w hw => hws w hw _ _ X.warmed
  have h2 : (Cond.codeWith y bytes maxL ret hh).before a A.U = true := hws _ hcode _ _ X.warmed
  have h3 : (Cond.initialized y.cls).before a A.U = true := hinit _ _ X.warmed
  have h4 : A.cells + (headSpec ws rm).room.cells ≤ R.cells := by rw [show (headSpec ws rm).room.cells = mc from hrc]; exact hp.1
  have h5 : A.slots + (headSpec ws rm).room.slots ≤ R.slots := by rw [show (headSpec ws rm).room.slots = ms from hrs]; exact hp.2.1
  have hPc : Pc a (A.U.calling g mk a) := hblind _ _ _ _ hp.2.2
  obtain ⟨U, Ls, c0, s0⟩ := A
  dsimp only [Pt.U, Pt.locs, Pt.cells, Pt.slots] at h1 h2 h3 h4 h5 X hn hPc ⊢
  obtain ⟨m9, methY, cY, hn9, hmY, hcY, -, hlY, -⟩ := Cond.codeWith_spec h2
  cases Option.some.inj (hn9.symm.trans hn)
  obtain ⟨kY, hkY, -⟩ := className_of_methodNamed hn
  have hinitY : kY.init = .initialized := Cond.initialized_spec (findClass_of_methodNamed hn) hkY h3
  have h : At U g.method c below := by rw [hg]; exact X.here
  have hlocals9 : W9 + (maxL + 11) + (headSpec ws rm).room.locals ≤ R.locals := hlocals
  have happ : (headSpec ws rm).appliesLoose y e.platform (U.calling g mk a) = true :=
    Spec.appliesLoose_calling (g := g) h hdg hn hkY hinitY
      (X.room_calling (g := g) (R' := (headSpec ws rm).room) hsize hmY hcY hframes (by rw [hlY]; omega) h4 h5) h1
  obtain ⟨mid, hmid⟩ := h.above
  have hfr : (U.setTop g).frames = (.java g :: mid) ++ below := by rw [State.frames_setTop' g h.top, hmid]; rfl
  obtain ⟨o, s₂, hsteps, -, hend, hq⟩ := Steps.callFree hM p X.admits X.cas X.clock (acts := []) hfr happ hPc trivial
  have hq' : vx_Q Qc XC mc ms free a (U.calling g mk a) o s₂ := hq
  rw [State.frames_setTop' g h.top] at hend
  obtain ⟨g₀, hg0⟩ := Option.isSome_iff_exists.mp h.top
  obtain ⟨r, hr⟩ := State.topJava?_eq_some.mp hg0
  have hr' : (({ U with heap := s₂.heap, slotsUsed := s₂.slotsUsed } : State).setVm s₂.vm).frames = .java g₀ :: r := hr
  rcases hq' with ⟨hqc, L, hfe, hL⟩ | ⟨q, rfl, E, ce, L, hx, hce, hcv, hcl, hW₂, hsm, hL⟩
  · obtain ⟨⟨v, rfl⟩, hW₂, e2, q2, q3, q4, q5, q6⟩ := id hfe
    have e3 : s₂ = ({ (U.calling g mk a).setFrames s₂.frames with heap := s₂.heap, slotsUsed := s₂.slotsUsed } : State).setVm s₂.vm := by
      have : s₂ = ({ s₂ with vm := (U.calling g mk a).vm } : State).setVm s₂.vm := rfl
      rw [e2] at this
      exact this
    obtain ⟨c₂, i₂, len₂, hc₂, hd₂, hf₂⟩ := hend
    have hW' : U.WarmedH s₂.vm := hW₂
    have hcc : c₂ = c := by
      have h1 : s₂.code? g.method = U.code? g.method := by
        rw [State.code?_eq, State.code?_eq, hW'.alike.method?]
      exact Option.some.inj (hc₂.symm.trans (h1.trans h.code))
    subst hcc
    have hlen : len₂ = len := by rw [hdg] at hd₂; cases hd₂; rfl
    subst hlen
    have hs₂ : s₂ = (({ U with heap := s₂.heap, slotsUsed := s₂.slotsUsed } : State).setVm s₂.vm).setTop { g with pc := g.pc + len₂, stack := v.toList ++ g.stack } := by
      refine e3.trans ?_
      rw [hf₂, State.calling_eq h.top, State.setFrames_setFrames, State.setTop_of_frames _ hr', hr]
      rfl
    have hsame : U.sameButNew ({ U with heap := s₂.heap, slotsUsed := s₂.slotsUsed } : State) L mc ms := by
      refine ⟨?_, q2, q3, q4, q5, q6⟩
      obtain ⟨t, ht, -⟩ := State.frames_cons hr
      show ({ U with heap := s₂.heap, slotsUsed := s₂.slotsUsed } : State) = { U.setFrames U.frames with heap := s₂.heap, slotsUsed := s₂.slotsUsed }
      rw [State.setFrames_self ht]
    subst hg
    refine Or.inl ⟨v, ⟨(({ U with heap := s₂.heap, slotsUsed := s₂.slotsUsed } : State).setVm s₂.vm), Ls ++ L, c0 + mc, s0 + ms⟩,
      ⟨X.admits, X.cas, X.clock, X.frames, X.room, X.hears, X.method, X.code, (X.here.setHeapUsed s₂.heap s₂.slotsUsed).setVm hW'.alike, X.tail, State.WarmedH.trans X.warmed hW', X.limits, X.bytes, X.same.trans (hsame.setVm s.vm)⟩,
      ⟨g, mk, s₂, L, rfl, rfl, hqc, rfl, hL, rfl, rfl⟩, ?_⟩
    show Steps p.tables e below _ ((({ U with heap := s₂.heap, slotsUsed := s₂.slotsUsed } : State).setVm s₂.vm).setTop { g with pc := g.pc + len₂, stack := v.toList ++ g.stack })
    rw [← hs₂]
    exact hsteps
  · obtain ⟨e2, q2, q3, q4, q5, q6⟩ := id hsm
    have e3 : s₂ = ({ (U.calling g mk a).setFrames s₂.frames with heap := s₂.heap, slotsUsed := s₂.slotsUsed } : State).setVm s₂.vm := by
      have : s₂ = ({ s₂ with vm := (U.calling g mk a).vm } : State).setVm s₂.vm := rfl
      rw [e2] at this
      exact this
    have hf₂ : s₂.frames = .throwing q :: .java g :: U.frames.tail := hend
    have hW' : U.WarmedH s₂.vm := hW₂
    have hs₂ : s₂ = ((({ U with heap := s₂.heap, slotsUsed := s₂.slotsUsed } : State).setVm s₂.vm).setTop g).pushFrame (.throwing q) := by
      refine e3.trans ?_
      rw [hf₂, State.calling_eq h.top, State.setFrames_setFrames, State.pushFrame, State.frames_setTop _ hr', State.setTop_of_frames _ hr', State.setFrames_setFrames, hr]
      rfl
    have hsame : U.sameButNew ({ U with heap := s₂.heap, slotsUsed := s₂.slotsUsed } : State) L mc ms := by
      refine ⟨?_, q2, q3, q4, q5, q6⟩
      obtain ⟨t, ht, -⟩ := State.frames_cons hr
      show ({ U with heap := s₂.heap, slotsUsed := s₂.slotsUsed } : State) = { U.setFrames U.frames with heap := s₂.heap, slotsUsed := s₂.slotsUsed }
      rw [State.setFrames_self ht]
    subst hg
    refine Or.inr ⟨q, ⟨(({ U with heap := s₂.heap, slotsUsed := s₂.slotsUsed } : State).setVm s₂.vm), Ls ++ L, c0 + mc, s0 + ms⟩,
      ⟨X.admits, X.cas, X.clock, X.frames, X.room, X.hears, X.method, X.code, (X.here.setHeapUsed s₂.heap s₂.slotsUsed).setVm hW'.alike, X.tail, State.WarmedH.trans X.warmed hW', X.limits, X.bytes, X.same.trans (hsame.setVm s.vm)⟩,
      ⟨g, mk, s₂, L, E, ce, rfl, rfl, hx, hce, hcv, hcl, rfl, hL, rfl, rfl⟩, ?_⟩
    show Steps p.tables e below _ (((({ U with heap := s₂.heap, slotsUsed := s₂.slotsUsed } : State).setVm s₂.vm).setTop g).pushFrame (.throwing q))
    rw [← hs₂]
    exact hsteps
end
variable {p : Program} {l : Launch} {e : Env} {R : Room} {s : State} {m : MethodId} {args : Array Value} {below : List Frame} {meth : Method} {c : Code} {T : State} {H : Heap} {locs : List Loc} {cells slots : Nat}
theorem vx_callVX (X : Stand p l e R s m args below meth c T locs cells slots) (hexec : p.tables.exec = Jvm.exec) {own C : String} {index : Nat} {y : MethodName} {bytes : ByteArray} {maxL : Nat} {ret : Option FieldType} {hh : List (Nat × Nat × Nat × Nat)}
    (hown : s.vm.findClass own = some m.cls) (hlink : (Cond.methodLink own index y).before args s = true) (hinst : (Cond.instanceMethod y).before args s = true) (hsel : (Cond.selects C y y).before args s = true)
    (hcode : (Cond.codeWith y bytes maxL ret hh).before args s = true) (hy : y.cls ≠ "java/lang/invoke/MethodHandle" ∧ y.cls ≠ "java/lang/invoke/VarHandle")
    {W9 : Nat} {Pre : Pt → Array Value → Prop} {Post : Pt → Array Value → Option Value → Pt → Prop} {PostX : Pt → Array Value → Addr → Pt → Prop} (hK : vx_Back l R p e below s args y 3 W9 Pre Post PostX)
    {b : Addr} {cellB : Cell} (hcell : T.heap[b]? = some cellB) (hobj : cellB.vm.isStatics = false) (hcls : s.vm.findClass C = some cellB.cls)
    {g : JFrame} (hg : g.method = m) (hsize : g.locals.size = c.maxLocals) {argsL rest : List Value} (hlen : ∀ sig, parseMethodDescriptor y.desc = some sig → argsL.length = sig.parameters.length)
    (hstack : g.stack = argsL.reverse ++ .ref b :: rest) (hW : 2 * g.monitorRoom + (rest.map fun v => v.category).sum ≤ W9) (hdg : decode c.code g.pc = .ok (.invokevirtual index, 3))
    (hpre : ∀ vm₁, s.WarmedH vm₁ → Pre ⟨T.setVm vm₁, locs, cells, slots⟩ (Value.ref b :: argsL).toArray) :
    (∃ (v : Option Value) (vm₁ : Vm) (B : Pt), s.WarmedH vm₁ ∧ Stand p l e R s m args below meth c B.U B.locs B.cells B.slots ∧ Post ⟨T.setVm vm₁, locs, cells, slots⟩ (Value.ref b :: argsL).toArray v B ∧
      ∀ target, Steps p.tables e below (B.U.setTop { g with pc := g.pc + 3, stack := v.toList ++ rest }) target → Steps p.tables e below (T.setTop g) target) ∨
    (∃ (q : Addr) (vm₁ : Vm) (B : Pt), s.WarmedH vm₁ ∧ Stand p l e R s m args below meth c B.U B.locs B.cells B.slots ∧ PostX ⟨T.setVm vm₁, locs, cells, slots⟩ (Value.ref b :: argsL).toArray q B ∧
      Steps p.tables e below (T.setTop g) ((B.U.setTop { g with stack := rest }).pushFrame (.throwing q))) := by
  obtain ⟨mk, methM, hnamed, hmethM, hstM, habM⟩ := Cond.instanceMethod_spec hinst
  obtain ⟨m8, methM', cM, hn8, hmethM', -, -, -, -, -, -, hsigM⟩ := Cond.codeWith_spec hcode
  cases Option.some.inj (hn8.symm.trans hnamed)
  cases hmethM.symm.trans hmethM'
  obtain ⟨c2, r2, m2, q1, q2, q3, q4, kP, hkP, hkPi⟩ := Cond.selects_spec hsel
  cases hcls.symm.trans q1
  cases (State.methodFound?_of_named hnamed hy).symm.trans q2
  cases hnamed.symm.trans q3
  have hselP : selectMethod e.platform s.vm cellB.cls mk = .method mk := by rw [Launch.admits_selectMethod X.admits]; exact q4
  obtain ⟨vm₁, X₁, hstep₁⟩ := X.invokevirtual hexec hown hlink hnamed hmethM hstM hkP hkPi hy (a := b) (cell := cellB) hcell
    (fun z h => by rw [h] at hobj; cases hobj) hselP hmethM habM hkP hkPi (g := g) hg (argsL := argsL) (rest := rest) (hlen _ hsigM) hstack hdg
  rcases hK m meth c ⟨T.setVm vm₁, locs, cells, slots⟩ { g with stack := rest } (.invokevirtual index) mk (Value.ref b :: argsL).toArray X₁ hg hsize hdg hW (X₁.named hnamed) (hpre vm₁ X₁.warmed) with ⟨v, B, X', hpost, hsteps⟩ | ⟨q, B, X', hpost, hsteps⟩
  · exact Or.inl ⟨v, vm₁, B, X₁.warmed, X', hpost, fun target h => hstep₁ _ fun acts => by rw [doInvoke_state]; exact hsteps.trans h⟩
  · exact Or.inr ⟨q, vm₁, B, X₁.warmed, X', hpost, hstep₁ _ fun acts => by rw [doInvoke_state]; exact hsteps⟩
theorem vx_callSX (X : Stand p l e R s m args below meth c T locs cells slots) (hexec : p.tables.exec = Jvm.exec) {own : String} {index : Nat} {y : MethodName} {bytes : ByteArray} {maxL : Nat} {ret : Option FieldType} {hh : List (Nat × Nat × Nat × Nat)}
    (hown : s.vm.findClass own = some m.cls) (hlink : (Cond.methodLink own index y).before args s = true) (hstat : (Cond.static y).before args s = true) (hinit : (Cond.initialized y.cls).before args s = true)
    (hcode : (Cond.codeWith y bytes maxL ret hh).before args s = true) (hy : y.cls ≠ "java/lang/invoke/MethodHandle" ∧ y.cls ≠ "java/lang/invoke/VarHandle")
    {W9 : Nat} {Pre : Pt → Array Value → Prop} {Post : Pt → Array Value → Option Value → Pt → Prop} {PostX : Pt → Array Value → Addr → Pt → Prop} (hK : vx_Back l R p e below s args y 3 W9 Pre Post PostX)
    {g : JFrame} (hg : g.method = m) (hsize : g.locals.size = c.maxLocals) {argsL rest : List Value} (hlen : ∀ sig, parseMethodDescriptor y.desc = some sig → argsL.length = sig.parameters.length)
    (hstack : g.stack = argsL.reverse ++ rest) (hW : 2 * g.monitorRoom + (rest.map fun v => v.category).sum ≤ W9) (hdg : decode c.code g.pc = .ok (.invokestatic index, 3))
    (hpre : ∀ vm₁, s.WarmedH vm₁ → Pre ⟨T.setVm vm₁, locs, cells, slots⟩ argsL.toArray) :
    (∃ (v : Option Value) (vm₁ : Vm) (B : Pt), s.WarmedH vm₁ ∧ Stand p l e R s m args below meth c B.U B.locs B.cells B.slots ∧ Post ⟨T.setVm vm₁, locs, cells, slots⟩ argsL.toArray v B ∧
      ∀ target, Steps p.tables e below (B.U.setTop { g with pc := g.pc + 3, stack := v.toList ++ rest }) target → Steps p.tables e below (T.setTop g) target) ∨
    (∃ (q : Addr) (vm₁ : Vm) (B : Pt), s.WarmedH vm₁ ∧ Stand p l e R s m args below meth c B.U B.locs B.cells B.slots ∧ PostX ⟨T.setVm vm₁, locs, cells, slots⟩ argsL.toArray q B ∧
      Steps p.tables e below (T.setTop g) ((B.U.setTop { g with stack := rest }).pushFrame (.throwing q))) := by
  obtain ⟨mk, methM, cM, hnamed, hmethM, -, -, -, -, -, -, hsigM⟩ := Cond.codeWith_spec hcode
  have hstatic : methM.isStatic = true := Cond.static_spec hnamed hmethM hstat
  obtain ⟨kP, hkP, -⟩ := className_of_methodNamed hnamed
  have hinitP : kP.init = .initialized := Cond.initialized_spec (findClass_of_methodNamed hnamed) hkP hinit
  obtain ⟨vm₁, X₁, hstep₁⟩ := X.invokestatic hexec hown hlink hnamed hmethM hstatic hkP hinitP hy (g := g) hg (argsL := argsL) (rest := rest) (hlen _ hsigM) hstack hdg
  rcases hK m meth c ⟨T.setVm vm₁, locs, cells, slots⟩ { g with stack := rest } (.invokestatic index) mk argsL.toArray X₁ hg hsize hdg hW (X₁.named hnamed) (hpre vm₁ X₁.warmed) with ⟨v, B, X', hpost, hsteps⟩ | ⟨q, B, X', hpost, hsteps⟩
  · exact Or.inl ⟨v, vm₁, B, X₁.warmed, X', hpost, fun target h => hstep₁ _ fun acts => by rw [doInvoke_state]; exact hsteps.trans h⟩
  · exact Or.inr ⟨q, vm₁, B, X₁.warmed, X', hpost, hstep₁ _ fun acts => by rw [doInvoke_state]; exact hsteps⟩
theorem vx_callVW (X : Stand p l e R s m args below meth c T locs cells slots) (hexec : p.tables.exec = Jvm.exec) {own C : String} {index : Nat} {y : MethodName} {bytes : ByteArray} {maxL : Nat} {ret : Option FieldType} {hh : List (Nat × Nat × Nat × Nat)}
    (hown : s.vm.findClass own = some m.cls) (hlink : (Cond.methodLink own index y).before args s = true) (hinst : (Cond.instanceMethod y).before args s = true) (hsel : (Cond.selects C y y).before args s = true)
    (hcode : (Cond.codeWith y bytes maxL ret hh).before args s = true) (hy : y.cls ≠ "java/lang/invoke/MethodHandle" ∧ y.cls ≠ "java/lang/invoke/VarHandle")
    {W9 : Nat} {Pre : Pt → Array Value → Prop} {Post : Pt → Array Value → Option Value → Pt → Prop} (hK : Back l R p e below s args y 3 W9 Pre Post)
    {b : Addr} {cellB : Cell} (hcell : T.heap[b]? = some cellB) (hobj : cellB.vm.isStatics = false) (hcls : s.vm.findClass C = some cellB.cls)
    {g : JFrame} (hg : g.method = m) (hsize : g.locals.size = c.maxLocals) {argsL rest : List Value} (hlen : ∀ sig, parseMethodDescriptor y.desc = some sig → argsL.length = sig.parameters.length)
    (hstack : g.stack = argsL.reverse ++ .ref b :: rest) (hW : 2 * g.monitorRoom + (rest.map fun v => v.category).sum ≤ W9) (hdg : decode c.code g.pc = .ok (.invokevirtual index, 3))
    (hpre : ∀ vm₁, s.WarmedH vm₁ → Pre ⟨T.setVm vm₁, locs, cells, slots⟩ (Value.ref b :: argsL).toArray) :
    ∃ (v : Option Value) (vm₁ : Vm) (B : Pt), s.WarmedH vm₁ ∧ Stand p l e R s m args below meth c B.U B.locs B.cells B.slots ∧ Post ⟨T.setVm vm₁, locs, cells, slots⟩ (Value.ref b :: argsL).toArray v B ∧
      ∀ target, Steps p.tables e below (B.U.setTop { g with pc := g.pc + 3, stack := v.toList ++ rest }) target → Steps p.tables e below (T.setTop g) target := by
  obtain ⟨mk, methM, hnamed, hmethM, hstM, habM⟩ := Cond.instanceMethod_spec hinst
  obtain ⟨m8, methM', cM, hn8, hmethM', -, -, -, -, -, -, hsigM⟩ := Cond.codeWith_spec hcode
  cases Option.some.inj (hn8.symm.trans hnamed)
  cases hmethM.symm.trans hmethM'
  obtain ⟨c2, r2, m2, q1, q2, q3, q4, kP, hkP, hkPi⟩ := Cond.selects_spec hsel
  cases hcls.symm.trans q1
  cases (State.methodFound?_of_named hnamed hy).symm.trans q2
  cases hnamed.symm.trans q3
  have hselP : selectMethod e.platform s.vm cellB.cls mk = .method mk := by rw [Launch.admits_selectMethod X.admits]; exact q4
  obtain ⟨vm₁, X₁, hstep₁⟩ := X.invokevirtual hexec hown hlink hnamed hmethM hstM hkP hkPi hy (a := b) (cell := cellB) hcell
    (fun z h => by rw [h] at hobj; cases hobj) hselP hmethM habM hkP hkPi (g := g) hg (argsL := argsL) (rest := rest) (hlen _ hsigM) hstack hdg
  obtain ⟨v, B, X', hpost, hsteps⟩ := hK m meth c ⟨T.setVm vm₁, locs, cells, slots⟩ { g with stack := rest } (.invokevirtual index) mk (Value.ref b :: argsL).toArray X₁ hg hsize hdg hW (X₁.named hnamed) (hpre vm₁ X₁.warmed)
  exact ⟨v, vm₁, B, X₁.warmed, X', hpost, fun target h => hstep₁ _ fun acts => by rw [doInvoke_state]; exact hsteps.trans h⟩
abbrev vx_CVW (R : Room) (s : State) (args : Array Value) (own C : String) (index : Nat) (y : MethodName) (bytes : ByteArray) (maxL : Nat) (ret : Option FieldType) (hh : List (Nat × Nat × Nat × Nat)) (ws : List Cond) (rm : Room) (mc ms n : Nat) : Prop :=
  (rm.cells = mc ∧ rm.slots = ms ∧ rm.frames + 1 ≤ R.frames ∧ 8 + (maxL + 11) + rm.locals ≤ R.locals ∧ (∀ w ∈ ws, ∀ (a' : Array Value) (U : State), s.WarmedH U.vm → w.before a' U = true) ∧ Cond.codeWith y bytes maxL ret hh ∈ ws) ∧
  (Cond.codeWith y bytes maxL ret hh).before args s = true ∧ (Cond.initialized y.cls).before args s = true ∧ (y.cls ≠ "java/lang/invoke/MethodHandle" ∧ y.cls ≠ "java/lang/invoke/VarHandle") ∧
  (∀ sig, parseMethodDescriptor y.desc = some sig → n = sig.parameters.length) ∧ (Cond.methodLink own index y).before args s = true ∧ (Cond.instanceMethod y).before args s = true ∧ (Cond.selects C y y).before args s = true
theorem vx_cwVW {own C : String} {index maxL mc ms : Nat} {y : MethodName} {bytes : ByteArray} {ret : Option FieldType} {hh : List (Nat × Nat × Nat × Nat)} {Ts ws ws' : List Cond} {rm : Room} (n : Nat) (ht : ∀ w ∈ Ts, w.before args s = true) (hT : GoodIn Ts (wsV own index C y ws)) (hw : ws = Cond.codeWith y bytes maxL ret hh :: ws') (hrc : rm.cells = mc) (hrs : rm.slots = ms)
    (hd : y.cls = C ∧ y.cls ≠ "java/lang/invoke/MethodHandle" ∧ y.cls ≠ "java/lang/invoke/VarHandle" ∧ (parseMethodDescriptor y.desc).map (fun d => d.parameters.length) = some n) (hR : rm.frames + 1 ≤ R.frames ∧ 8 + (maxL + 11) + rm.locals ≤ R.locals) :
    vx_CVW R s args own C index y bytes maxL ret hh ws rm mc ms n := by
  obtain ⟨hC, hd⟩ := hd
  subst hC
  have ok : ∀ w ∈ wsV own index y.cls y ws, w.before args s = true := fun w h => ht w (hT w h).1
  have hG : GoodIn Ts ws := fun w h => hT w (by unfold wsV; exact List.mem_append_right _ h)
  have hc : Cond.codeWith y bytes maxL ret hh ∈ ws := by rw [hw]; exact List.mem_cons_self
  refine ⟨⟨hrc, hrs, hR.1, hR.2, pay_in ht hG, hc⟩, ht _ (hG _ hc).1, ok _ (by simp [wsV]), ⟨hd.1, hd.2.1⟩, fun sig h => ?_, ok _ (by simp [wsV]), ok _ (by simp [wsV]), ok _ (by simp [wsV])⟩
  have h2 := hd.2.2
  rw [h] at h2
  exact (Option.some.inj h2).symm
theorem vx_runVW {y : MethodName} {bytes cc : ByteArray} {maxL nL mc ms n index : Nat} {ret : Option FieldType} {hh : List (Nat × Nat × Nat × Nat)} {ws : List Cond} {rm : Room} {Pc : Array Value → State → Prop} {Qc : Array Value → State → Outcome → State → Prop} {free : Addr → Prop} {Ts : List Cond} {own C : String} {b : Addr} {As rest : List Value} {g : JFrame}
    (S : CallFix p m c cc nL s args Ts own) (hM : Met l y ws rm Pc Qc mc ms free) (cw : vx_CVW R s args own C index y bytes maxL ret hh ws rm mc ms n) (hp : PreV s H C b Pc As)
    (hg : g.method = m) (hn : As.length = n) (hsize : g.locals.size = nL) (hstack : g.stack = As.reverse ++ .ref b :: rest) (hW : 2 * g.monitorRoom + (rest.map fun v => v.category).sum ≤ 8) (hdg : decode cc g.pc = .ok (.invokevirtual index, 3)) (hf : cells + mc ≤ R.cells ∧ slots + ms ≤ R.slots) :
    va_Run p l e R s m args below meth c H locs cells slots mc ms g rest (Qc (Value.ref b :: As).toArray) free := by
  obtain ⟨⟨hrc, hrs, hfr, hlo, hws, hcw⟩, hcode, hini, hy, hlen, hl, hin, hse⟩ := cw
  have hK : Back l R p e below s args y 3 8 (PreOf R mc ms Pc) (PostOf Qc mc ms free) := va_backW (hh := hh) (bytes := bytes) (maxL := maxL) (ret := ret) hM hp.1 hrc hrs hfr hlo hws hcw (fun a' U hW => word_at hW (Or.inl (by first | rfl | simp [Cond.onTables, Cond.keeps, Cond.steady])) hini)
  obtain ⟨hx, hb, hml, ho, -⟩ := S
  obtain ⟨-, ⟨cellB, hcB, hoB, hclB⟩, hPc⟩ := hp
  intro T hT X
  obtain ⟨v, vm₁, ⟨U', l2, c2, s2⟩, hW₁, X', ⟨g', mk, t, L, e1, e2, hq, h1, hL, h2, h3⟩, st⟩ := vx_callVW X hx (C := C) (hh := hh) (bytes := bytes) (maxL := maxL) (ret := ret) ho hl hin hse hcode hy hK (by rw [hT]; exact hcB) hoB hclB hg (hsize.trans hml.symm) (argsL := As) (rest := rest) (fun sig h => hn.trans (hlen sig h)) hstack hW (by rw [hb]; exact hdg)
    (fun vm₁ hW₁ => ⟨hf.1, hf.2, hPc (T.setVm vm₁) hT hW₁⟩)
  dsimp only [Pt.U, Pt.locs, Pt.cells, Pt.slots] at X' e1 e2 h1 h2 h3 st
  subst h1; subst h2; subst h3
  exact ⟨v, (T.setVm vm₁).calling g' mk (Value.ref b :: As).toArray, t, U', L, hT, X', hL, e1, e2, hq, st⟩
section
variable {y : MethodName} {bytes cc : ByteArray} {maxL nL mc ms n index : Nat} {ret : Option FieldType} {ws : List Cond} {rm : Room} {Pc : Array Value → State → Prop} {Qc : Array Value → State → Outcome → State → Prop} {XC : String → State → State → Prop} {free : Addr → Prop} {Ts : List Cond} {own C : String} {b : Addr} {As rest : List Value} {g : JFrame}
theorem vx_runVX {hh : List (Nat × Nat × Nat × Nat)} (S : CallFix p m c cc nL s args Ts own) (hM : vx_Met l y ws rm Pc Qc XC mc ms free) (cw : vx_CVW R s args own C index y bytes maxL ret hh ws rm mc ms n) (hp : PreV s H C b Pc As)
    (hg : g.method = m) (hn : As.length = n) (hsize : g.locals.size = nL) (hstack : g.stack = As.reverse ++ .ref b :: rest) (hW : 2 * g.monitorRoom + (rest.map fun v => v.category).sum ≤ 8) (hdg : decode cc g.pc = .ok (.invokevirtual index, 3)) (hf : cells + mc ≤ R.cells ∧ slots + ms ≤ R.slots) :
    vx_Run p l e R s m args below meth c H locs cells slots mc ms g rest (Qc (Value.ref b :: As).toArray) XC free := by
  obtain ⟨⟨hrc, hrs, hfr, hlo, hws, hcw⟩, hcode, hini, hy, hlen, hl, hin, hse⟩ := cw
  have hK : vx_Back l R p e below s args y 3 8 (PreOf R mc ms Pc) (PostOf Qc mc ms free) (vx_Post XC mc ms free) := vx_backW (hh := hh) (bytes := bytes) (maxL := maxL) (ret := ret) hM hp.1 hrc hrs hfr hlo hws hcw (fun a' U hW => word_at hW (Or.inl (by first | rfl | simp [Cond.onTables, Cond.keeps, Cond.steady])) hini)
  obtain ⟨hx, hb, hml, ho, -⟩ := S
  obtain ⟨-, ⟨cellB, hcB, hoB, hclB⟩, hPc⟩ := hp
  intro T hT X
  rcases vx_callVX X hx (C := C) (hh := hh) (bytes := bytes) (maxL := maxL) (ret := ret) ho hl hin hse hcode hy hK (by rw [hT]; exact hcB) hoB hclB hg (hsize.trans hml.symm) (argsL := As) (rest := rest) (fun sig h => hn.trans (hlen sig h)) hstack hW (by rw [hb]; exact hdg)
    (fun vm₁ hW₁ => ⟨hf.1, hf.2, hPc (T.setVm vm₁) hT hW₁⟩) with ⟨v, vm₁, ⟨U', l2, c2, s2⟩, hW₁, X', ⟨g', mk, t, L, e1, e2, hq, h1, hL, h2, h3⟩, st⟩ | ⟨q, vm₁, ⟨U', l2, c2, s2⟩, hW₁, X', ⟨g', mk, t, L, E, ce, e1, e2, hq, hce, hcv, hcl, h1, hL, h2, h3⟩, st⟩
  · dsimp only [Pt.U, Pt.locs, Pt.cells, Pt.slots] at X' e1 e2 h1 h2 h3 st
    subst h1; subst h2; subst h3
    exact Or.inl ⟨v, (T.setVm vm₁).calling g' mk (Value.ref b :: As).toArray, t, U', L, hT, X', hL, e1, e2, hq, st⟩
  · dsimp only [Pt.U, Pt.locs, Pt.cells, Pt.slots] at X' e1 e2 h1 h2 h3 st hcl
    subst h1; subst h2; subst h3
    exact Or.inr ⟨q, (T.setVm vm₁).calling g' mk (Value.ref b :: As).toArray, t, U', L, E, ce, hT, X', hL, e1, e2, hq, hce, hcv, vx_cls hW₁ hcl, st⟩
theorem vx_runSX {hh : List (Nat × Nat × Nat × Nat)} (S : CallFix p m c cc nL s args Ts own) (hM : vx_Met l y ws rm Pc Qc XC mc ms free) (cw : vx_CSW R s args own index y bytes maxL ret hh ws rm mc ms n) (hp : PreS s H Pc As)
    (hg : g.method = m) (hn : As.length = n) (hsize : g.locals.size = nL) (hstack : g.stack = As.reverse ++ rest) (hW : 2 * g.monitorRoom + (rest.map fun v => v.category).sum ≤ 8) (hdg : decode cc g.pc = .ok (.invokestatic index, 3)) (hf : cells + mc ≤ R.cells ∧ slots + ms ≤ R.slots) :
    vx_Run p l e R s m args below meth c H locs cells slots mc ms g rest (Qc As.toArray) XC free := by
  obtain ⟨⟨hrc, hrs, hfr, hlo, hws, hcw⟩, hcode, hini, hy, hlen, hl, hstt⟩ := cw
  have hK : vx_Back l R p e below s args y 3 8 (PreOf R mc ms Pc) (PostOf Qc mc ms free) (vx_Post XC mc ms free) := vx_backW (hh := hh) (bytes := bytes) (maxL := maxL) (ret := ret) hM hp.1 hrc hrs hfr hlo hws hcw (fun a' U hW => word_at hW (Or.inl (by first | rfl | simp [Cond.onTables, Cond.keeps, Cond.steady])) hini)
  obtain ⟨hx, hb, hml, ho, -⟩ := S
  intro T hT X
  rcases vx_callSX X hx (hh := hh) (bytes := bytes) (maxL := maxL) (ret := ret) ho hl hstt hini hcode hy hK hg (hsize.trans hml.symm) (argsL := As) (rest := rest) (fun sig h => hn.trans (hlen sig h)) hstack hW (by rw [hb]; exact hdg)
    (fun vm₁ hW₁ => ⟨hf.1, hf.2, hp.2 (T.setVm vm₁) hT hW₁⟩) with ⟨v, vm₁, ⟨U', l2, c2, s2⟩, hW₁, X', ⟨g', mk, t, L, e1, e2, hq, h1, hL, h2, h3⟩, st⟩ | ⟨q, vm₁, ⟨U', l2, c2, s2⟩, hW₁, X', ⟨g', mk, t, L, E, ce, e1, e2, hq, hce, hcv, hcl, h1, hL, h2, h3⟩, st⟩
  · dsimp only [Pt.U, Pt.locs, Pt.cells, Pt.slots] at X' e1 e2 h1 h2 h3 st
    subst h1; subst h2; subst h3
    exact Or.inl ⟨v, (T.setVm vm₁).calling g' mk As.toArray, t, U', L, hT, X', hL, e1, e2, hq, st⟩
  · dsimp only [Pt.U, Pt.locs, Pt.cells, Pt.slots] at X' e1 e2 h1 h2 h3 st hcl
    subst h1; subst h2; subst h3
    exact Or.inr ⟨q, (T.setVm vm₁).calling g' mk As.toArray, t, U', L, E, ce, hT, X', hL, e1, e2, hq, hce, hcv, vx_cls hW₁ hcl, st⟩
end
end VXH
theorem vx_ofWH {l : Launch} {y : MethodName} {ws ws' : List Cond} {rm : Room} {Pc : Array Value → State → Prop} {Qc : Array Value → State → Outcome → State → Prop} {XC : String → State → State → Prop} {mc ms : Nat} {free : Addr → Prop} {cc : ByteArray} {maxL : Nat} {ret : Option FieldType} {hh : List (Nat × Nat × Nat × Nat)}
    (hy : plainName y.cls = true) (hw : ws = Cond.codeWith y cc maxL ret hh :: ws')
    (body : ∀ p e s m args below meth c s₁, BodyLoose p l y (headSpec ws rm) cc maxL ret e s m args below meth c s₁ → c.maxLocals = maxL → Pc args s →
      W p l e (headSpec ws rm).room s m args below meth c s.heap [] 0 0 (vx_MQ below Qc XC args s mc ms free) (entryFrame m args maxL)) : vx_Met l y ws rm Pc Qc XC mc ms free := by
  refine MetFree.of_bodyS (code := cc) (maxLocals := maxL) (ret := ret) hy ?_ ?_
  · intro args s m h hn
    obtain ⟨m9, meth, c, hn9, h1, h2, h3, h4, -, h5, h6, -⟩ := Cond.codeWith_spec (atoms_spec (ws := ws) h _ (by rw [hw]; exact List.mem_cons_self))
    cases hn.symm.trans hn9
    exact ⟨meth, c, h1, h2, h3, h4, h5, h6⟩
  · intro p e s m args below meth c s₁ B hml hP _
    have hh0 : s₁.heap = s.heap := by rw [B.state]; rfl
    obtain ⟨t, a1, o, b1, b2, b3⟩ := body p e s m args below meth c s₁ B hml hP s₁ hh0 (Stand.of_body B)
    exact ⟨t, o, a1, b1, b2, b3⟩
/-! ===== END ===== -/
/-! ===== BEGIN what the machine throws by itself, no traces kept ===== -/
section VXM
set_option maxHeartbeats 1000000 in
/-- the machine throws cls with the message text, no traces kept: from its note over the frame g to 'throwing' over the same frame (follows the proofs of Stand.vmThrowsMessage, Shelf/KitTracedVmS.lean, and Stand.throwsMessageColdBareV, StandMessageColdV.lean, without the step out of the frame) -/
theorem vx_vmAt {p : Program} {l : Launch} {e : Env} {R : Room} {s : State} {m₀ : MethodId} {args : Array Value} {below : List Frame} {meth : Method} {c : Code} {W : State} {locs : List Loc} {cells slots : Nat}
    (X : Stand p l e R s m₀ args below meth c W locs cells slots) (hexec : p.tables.exec = Jvm.exec) (htr : e.platform.stackTraces = false) {cls : String} {names : List String} {text : String}
    (hcls : Bundle.fit cls = true) (hnames : ∀ n ∈ names, Bundle.fit n = true) (hsoe : (cls == "java/lang/StackOverflowError") = false) (hoom : (cls == "java/lang/OutOfMemoryError") = false)
    (h : ∀ a ∈ Bundle.messageArmAtoms cls names, a.before args s = true)
    (hlocs : ∀ x ∈ locs, ∀ cell, s.heap[x.base]? = some cell → cell.vm.isStatics = false)
    (htext : (text == notModelled) = false) (hlimit : ¬ (stringBytes (stringToUtf16 text)).size > e.platform.arrayLengthLimit) (hheap : ¬ (stringBytes (stringToUtf16 text)).size * componentBytes .byte > e.platform.maxHeapBytes)
    {g : JFrame} (hg : g.method = m₀) (hsize : g.locals.size = c.maxLocals)
    (hRframes : names.length + 4 < R.frames) (hRlocals : 2 * g.monitorRoom + (g.stack.map fun v => v.category).sum + 10240 ≤ R.locals) (hshort : 13 * names.length + 55 ≤ 10240)
    (hRcells : cells + 3 ≤ R.cells) (hRslots : slots + ((stringBytes (stringToUtf16 text)).size + 4 + 6) ≤ R.slots) (hlocks : meth.locks = false) :
    ∃ (S : State) (q : Addr) (ce : Cell), (∀ target, Steps p.tables e below ((S.setTop g).pushFrame (.throwing q)) target → Steps p.tables e below ((W.setTop g).pushFrame (.throwNew cls (some text) none)) target) ∧
      Stand p l e R s m₀ args below meth c S locs (cells + 3) (slots + ((stringBytes (stringToUtf16 text)).size + 4 + 6)) ∧ S.heap[q]? = some ce ∧ s.vm.findClass cls = some ce.cls ∧ ce.vm = .none := by
  have howns : e.platform.frameOwnsMonitors = true := by rw [X.admits.platform]
  have hfin : e.platform.finalization = false := by rw [X.admits.platform]
  have hpl : e.platform.magicAccessors = ({} : Platform).magicAccessors := by rw [X.admits.platform]
  have a : ∀ x, x ∈ Bundle.messageArmAtoms cls names → x.holds args s none s [] = true := fun x hx => h x hx
  obtain ⟨T, Z0, L, -, Y⟩ := ThrowableC.of_atoms (args := args) howns hfin hpl (fun x hx => h x (by simp [Bundle.messageArmAtoms, hx]))
  obtain ⟨Z, M, LZ, LM, hnZ⟩ := Init0T.ofS_atoms (args := args) hpl L Y (fun x hx => h x (by simp [Bundle.messageArmAtoms, hx]))
  obtain ⟨P1, Ps, hlen, L1, hL, hP1m, hlink1, hlink⟩ := Bundle.chainS (args := args) hpl hnZ names cls hcls hnames (fun x hx => h x (by simp [Bundle.messageArmAtoms, hx]))
  obtain ⟨Zs, LZs, hn4, hfitv, hfitc⟩ := StringT.of_atoms (args := args) (fun x hx => h x (by simp [Bundle.messageArmAtoms, hx]))
  have hfound : s.vm.findClass cls = some P1.m.cls := findClass_of_methodNamed hP1m
  obtain ⟨c1, kX, hc1, hk, hord, -, -, hn6⟩ := Cond.instantiable_spec (a (.instantiable cls 6) (by simp [Bundle.messageArmAtoms]))
  cases Option.some.inj (hc1.symm.trans hfound)
  have hinit := Cond.initialized_spec hfound hk (a (.initialized cls) (by simp [Bundle.messageArmAtoms]))
  have hctor : kX.findMethod "<init>" "(Ljava/lang/String;)V" = some P1.m.idx := findMethod_of_methodNamed hP1m hk
  have hsel0 : selectMethod e.platform s.vm P1.m.cls T.fill0 = .method T.fill0 := by
    obtain ⟨c2, r2, m2, q1, q2, q3, q4, -⟩ := Cond.selects_spec (a (.selects cls Bundle.tFill0 Bundle.tFill0) (by simp [Bundle.messageArmAtoms]))
    cases Option.some.inj (q1.symm.trans hfound)
    cases Option.some.inj (q2.symm.trans (State.methodFound?_of_named Y.fill0 (by decide)))
    cases Option.some.inj (q3.symm.trans Y.fill0)
    rw [Launch.admits_selectMethod X.admits]; exact q4
  have hselF : selectMethod e.platform s.vm P1.m.cls T.fill = .method T.fill := by
    obtain ⟨c2, r2, m2, q1, q2, q3, q4, -⟩ := Cond.selects_spec (a (.selects cls Bundle.tFill Bundle.tFill) (by simp [Bundle.messageArmAtoms]))
    cases Option.some.inj (q1.symm.trans hfound)
    cases Option.some.inj (q2.symm.trans (State.methodFound?_of_named Y.fill (by decide)))
    cases Option.some.inj (q3.symm.trans Y.fill)
    rw [Launch.admits_selectMethod X.admits]; exact q4
  obtain ⟨cellS0, hcS0, hiss⟩ := Y.statics
  obtain ⟨u0, hu0⟩ := Cond.staticRefV Y.unassigned L.unassignedStatic L.statics hcS0 hiss (a (.isRef (.static Bundle.tN "UNASSIGNED_STACK" Bundle.steD)) (by simp [Bundle.messageArmAtoms]))
  obtain ⟨sen, hsen⟩ := Cond.staticRefV Y.sentinel L.sentinelStatic L.statics hcS0 hiss (a (.isRef (.static Bundle.tN "SUPPRESSED_SENTINEL" Bundle.listD)) (by simp [Bundle.messageArmAtoms]))
  obtain ⟨ci198, i198, fB, hk198, hg198, ha198, hsB, -, hnB, htB, hffB⟩ := Cond.ownField (t := .object "java/lang/Object") Y.found L.cls (by decide +kernel) (a (.fieldLink Bundle.tN 198 Bundle.tN "backtrace" "Ljava/lang/Object;") (by simp [Bundle.messageArmAtoms])) (a (.lays Bundle.tN Bundle.tN "backtrace" "Ljava/lang/Object;") (by simp [Bundle.messageArmAtoms])) e.platform hpl
  obtain ⟨cellS, hcS', heS, -, hkeep⟩ := X.same.2.2.2.2.2 T.aS cellS0 hcS0
  have hcellS : W.heap[T.aS]? = some cellS := hcS'
  have hout' : ∀ i, (⟨T.aS, i⟩ : Loc) ∉ locs := fun i hmem => by
    have := hlocs _ hmem cellS0 hcS0
    rw [hiss] at this; cases this
  have hknownS : cellS.vm ≠ .unknown := by
    rw [heS]; intro hu
    rw [show cellS0.vm = .unknown from hu] at hiss
    cases hiss
  have hvU : cellS.slots[T.fUnassigned.slot]? = some u0.v := by rw [hkeep _ (hout' _)]; exact hu0
  have hvSen : cellS.slots[T.fSentinel.slot]? = some sen.v := by rw [hkeep _ (hout' _)]; exact hsen
  obtain ⟨iM, hffM⟩ := Y.msg
  obtain ⟨tyC, dC, hdC, hdnC⟩ := Cond.laysAt hfound hk Y.cause (a (.lays cls Bundle.tN "cause" "Ljava/lang/Throwable;") (by simp [Bundle.messageArmAtoms]))
  obtain ⟨tyS, dS, hdS, hdnS⟩ := Cond.laysAt hfound hk Y.stack (a (.lays cls Bundle.tN "stackTrace" Bundle.steD) (by simp [Bundle.messageArmAtoms]))
  obtain ⟨tyP, dP, hdP, hdnP⟩ := Cond.laysAt hfound hk Y.supp (a (.lays cls Bundle.tN "suppressedExceptions" Bundle.listD) (by simp [Bundle.messageArmAtoms]))
  obtain ⟨tyM, dM, hdM, hdnM⟩ := Cond.laysAt hfound hk hffM (a (.lays cls Bundle.tN "detailMessage" "Ljava/lang/String;") (by simp [Bundle.messageArmAtoms]))
  obtain ⟨tyB, dB, hdB, hdnB⟩ := Cond.laysAt hfound hk hffB (a (.lays cls Bundle.tN "backtrace" "Ljava/lang/Object;") (by simp [Bundle.messageArmAtoms]))
  have bC := Cond.laysApart hdB hdC hdnB hdnC (by rw [hnB, Y.causeName]; decide)
  have bS := Cond.laysApart hdB hdS hdnB hdnS (by rw [hnB, Y.stackName]; decide)
  have bP := Cond.laysApart hdB hdP hdnB hdnP (by rw [hnB, Y.suppName]; decide)
  have hbk : ((preparedCellV T.toThrowableT (freshCell P1.m.cls kX) (W.heap.size + 2) u0 sen).withEntry W.cur).slots[fB.slot]? = some .null := by
    have := fresh_default (c := P1.m.cls) tyB
    rw [htB] at this
    simpa [preparedCellV, Cell.setSlot, Cell.withEntry, Array.getElem?_setIfInBounds, bC, bS, bP, bC.symm, bS.symm, bP.symm, defaultValue] using this
  have tkC := Takes.of_laid (v := .ref (W.heap.size + 2)) hk hord tyC (by rw [Y.causeType]; rfl)
  have tkS := Takes.of_laid (v := u0.v) hk hord tyS (by rw [Y.stackType]; exact fits_refV_array _ u0)
  have tkP := Takes.of_laid (v := sen.v) hk hord tyP (by rw [Y.suppType]; exact fits_refV_object _ sen)
  have tkM := Takes.of_laid (v := .ref (W.heap.size + 1)) hk hord tyM (by rw [Y.msgType]; rfl)
  have hskip : SkipFacts T e.platform s (fun u => u) u0 ((preparedCellV T.toThrowableT (freshCell P1.m.cls kX) (W.heap.size + 2) u0 sen).withEntry W.cur) := ⟨{ ci198 := ci198, i198 := i198, fBack := fB }, ⟨hk198, hg198, ha198, hsB⟩, hbk, fun _ _ => rfl⟩
  have h0 : At W g.method c below := by rw [hg]; exact X.here
  obtain ⟨hbeyond, hfreeW⟩ := X.vmMayThrow hsize (.throwNew cls (some text) none) (fun f hf => by cases hf) rfl hRlocals
  have hfr' : W.frames.length + Ps.length + 4 < (e.platform.stackLimits W.me).1 := by have := X.framesAbove hRframes; omega
  have hwd' : (stackUse (.java g :: W.frames.tail)).2 + 13 * Ps.length + 55 ≤ (e.platform.stackLimits W.me).2 := by have := X.stackAbove hsize (K := 13 * Ps.length + 55) (by omega); omega
  have hslots : W.slotsUsed + (stringBytes (stringToUtf16 text)).size + Zs.kS.instanceTypes.size + kX.instanceTypes.size ≤ e.platform.maxSlots := by
    have := X.slotsAbove hRslots
    rw [hn4, hn6]
    omega
  obtain ⟨vm', hW', st⟩ := Steps.vmThrowsMessageColdByV p (s₀ := s) (S := W) (g := g) h0 hexec T L Z LZ M LM X.warmed (t := W.cur) rfl Zs LZs P1 L1 Ps hL hlink1 hlink hsoe hoom hfound hk hinit hord hctor
    (Launch.admits_hotImplicitExceptions X.admits) hbeyond hfreeW htext hlimit hheap (X.cellsAbove hRcells) hslots (hfitv _) (hfitc _)
    (Nn := fun u => u) heapOnly_id (fun _ _ => rfl) (fun _ => rfl) (fun u x y => setCell_twice _ _ _ _) (fun _ => Nat.le_refl _) (cN := ((preparedCellV T.toThrowableT (freshCell P1.m.cls kX) (W.heap.size + 2) u0 sen).withEntry W.cur))
    hsel0 hcellS hknownS hvU tkS (fun _ hu => hu) (fun _ hu => hu) rfl rfl rfl (by simp [preparedCellV, Cell.setSlot, Cell.withEntry]) hskip (fun _ _ hA hW _ hroom _ hrest => L.nativeOff p htr hA hW hroom hrest) hselF hvSen tkC tkP tkM Y.objLocals rfl hfr' hwd'
  rw [plainBareV_eq T.toThrowableT (W.heap.size + 2) u0 sen (.ref (W.heap.size + 1)) W.cur rfl rfl] at st
  obtain ⟨-, -, w3, w4, -, -, -⟩ := withThrown_facts e.platform W Zs text P1.m.cls kX
  have X3 := ((X.pushed (bytesOf Zs.cB (stringToUtf16 text))).pushed (stringAt Zs.cS Zs.kS Zs.fv Zs.fc (stringToUtf16 text) W.heap.size)).pushed (freshCell P1.m.cls kX)
  rw [← withString_eq] at X3
  have X4 := X3.noted hW'
  have ha : (W.heap.size + 2) < ((withThrown W Zs text P1.m.cls kX).setVm vm').heap.size := by show _ < (withThrown W Zs text P1.m.cls kX).heap.size; rw [w3]; omega
  have hcell : ((withThrown W Zs text P1.m.cls kX).setVm vm').heap[(W.heap.size + 2)]? = some (freshCell P1.m.cls kX) := w4
  have X5 := ((((X4.stored hcell T.fCause.slot (.ref (W.heap.size + 2))).storedAgain ha T.fStack.slot u0.v).storedAgain ha T.fSupp.slot sen.v).storedAgain ha T.fStack.slot u0.v).storedAgain ha T.fMsg.slot (.ref (W.heap.size + 1))
  obtain ⟨g₁, hfrM⟩ := X5.frames_eq
  have hU : ((((withThrown W Zs text P1.m.cls kX).setVm vm').setCell (W.heap.size + 2) (plainBareV T.toThrowableT (freshCell P1.m.cls kX) (W.heap.size + 2) u0 sen (.ref (W.heap.size + 1)))).setTop g).pushFrame (.throwing (W.heap.size + 2)) = (((withThrown W Zs text P1.m.cls kX).setVm vm').setCell (W.heap.size + 2) (plainBareV T.toThrowableT (freshCell P1.m.cls kX) (W.heap.size + 2) u0 sen (.ref (W.heap.size + 1)))).setFrames (.throwing (W.heap.size + 2) :: .java g :: below) := by
    rw [State.pushFrame, State.frames_setTop _ hfrM, State.setTop_of_frames _ hfrM, State.setFrames_setFrames]
  have b1 : (bytesOf Zs.cB (stringToUtf16 text)).slots.size = (stringBytes (stringToUtf16 text)).size := by
    rw [(Cell.writeAll_facts _ _).2.2]; simp [bytes0]
  have b2 : (stringAt Zs.cS Zs.kS Zs.fv Zs.fc (stringToUtf16 text) W.heap.size).slots.size = 4 := by simp [string0, Cell.setSlot, hn4]
  have b3 : (freshCell P1.m.cls kX).slots.size = 6 := by simp [hn6]
  rw [b1, b2, b3] at X5
  have e9 : slots + (stringBytes (stringToUtf16 text)).size + 4 + 6 = slots + ((stringBytes (stringToUtf16 text)).size + 4 + 6) := by omega
  rw [e9] at X5
  simp only [List.append_assoc, List.cons_append, List.nil_append] at X5
  refine ⟨((withThrown W Zs text P1.m.cls kX).setVm vm').setCell (W.heap.size + 2) (plainBareV T.toThrowableT (freshCell P1.m.cls kX) (W.heap.size + 2) u0 sen (.ref (W.heap.size + 1))), W.heap.size + 2, _, fun target ht => st _ (by rw [X.tail, ← hU]; exact ht),
    X5.forget (fun y hy => ?_), heapAt_setCell_self _ ha, hfound, rfl⟩
  simp only [List.mem_cons, List.not_mem_nil, or_false] at hy
  have hge : s.heap.size ≤ W.heap.size := X.same.2.1
  rcases hy with rfl | rfl | rfl | rfl | rfl <;> exact Nat.le_trans hge (Nat.le_add_right _ 2)
set_option maxHeartbeats 1000000 in
/-- the machine throws NullPointerException, no traces kept: from its note over the frame g to 'throwing' over the same frame (follows the proof of Stand.vmThrowsNpe, Shelf42/KT2.lean; throwsNpeColdBareVAt, Shelf42/NT91.lean, called) -/
theorem vx_npeAt {p : Program} {l : Launch} {e : Env} {R : Room} {s : State} {m₀ : MethodId} {args : Array Value} {below : List Frame} {meth : Method} {c : Code} {W : State} {locs : List Loc} {cells slots : Nat}
    (X : Stand p l e R s m₀ args below meth c W locs cells slots) (hexec : p.tables.exec = Jvm.exec) (htr : e.platform.stackTraces = false) {n : Nat}
    (h : ∀ a ∈ Bundle.npeArmAtoms n, a.before args s = true)
    (hlocs : ∀ x ∈ locs, ∀ cell, s.heap[x.base]? = some cell → cell.vm.isStatics = false)
    {g : JFrame} (hg : g.method = m₀) (hsize : g.locals.size = c.maxLocals)
    (hRframes : 7 < R.frames) (hRlocals : 2 * g.monitorRoom + (g.stack.map fun v => v.category).sum + 10240 ≤ R.locals)
    (hRcells : cells + 1 ≤ R.cells) (hRslots : slots + n ≤ R.slots) (hlocks : meth.locks = false) :
    ∃ (S : State) (q : Addr) (ce : Cell), (∀ target, Steps p.tables e below ((S.setTop g).pushFrame (.throwing q)) target → Steps p.tables e below ((W.setTop g).pushFrame (.throwNew "java/lang/NullPointerException" none none)) target) ∧
      Stand p l e R s m₀ args below meth c S locs (cells + 1) (slots + n) ∧ S.heap[q]? = some ce ∧ s.vm.findClass "java/lang/NullPointerException" = some ce.cls ∧ ce.vm = .none := by
  have howns : e.platform.frameOwnsMonitors = true := by rw [X.admits.platform]
  have hfin : e.platform.finalization = false := by rw [X.admits.platform]
  have hpl : e.platform.magicAccessors = ({} : Platform).magicAccessors := by rw [X.admits.platform]
  have hpl2 : e.platform.arrayCloneIsPublic = true := by rw [X.admits.platform]
  have a' : ∀ x, x ∈ Bundle.npeArmAtoms n → x.holds args s none s [] = true := fun x hx => h x hx
  obtain ⟨T, Z, L, LZ, Y⟩ := ThrowableC.of_atoms (args := args) howns hfin hpl (fun x hx => h x (by simp [Bundle.npeArmAtoms, hx]))
  obtain ⟨N, LN, hcN, hnNF, hordN, hffS⟩ := NpeC.of_atoms (args := args) hpl hpl2 L Y (fun x hx => h x (by simp [Bundle.npeArmAtoms, hx]))
  obtain ⟨P1, L1, hP1m, hP1s⟩ := PassC.of_atoms (args := args) (s := s) hpl (X := Bundle.nN) (Y := Bundle.rN) (by decide) (by decide) LibCode.NullPointerException.Init0.at_0 LibCode.NullPointerException.Init0.at_1 LibCode.NullPointerException.Init0.at_4 (fun x hx => h x (by simp [Bundle.npeArmAtoms, hx]))
  obtain ⟨PR, LR, hPRm, hPRs⟩ := PassC.of_atoms (args := args) (s := s) hpl (X := Bundle.rN) (Y := Bundle.eN) (by decide) (by decide) LibCode.RuntimeException.Init0.at_0 LibCode.RuntimeException.Init0.at_1 LibCode.RuntimeException.Init0.at_4 (fun x hx => h x (by simp [Bundle.npeArmAtoms, hx]))
  obtain ⟨PE, LEx, hPEm, hPEs⟩ := PassC.of_atoms (args := args) (s := s) hpl (X := Bundle.eN) (Y := Bundle.tN) (by decide) (by decide) LibCode.Exception.Init0.at_0 LibCode.Exception.Init0.at_1 LibCode.Exception.Init0.at_4 (fun x hx => h x (by simp [Bundle.npeArmAtoms, hx]))
  have hfound : s.vm.findClass Bundle.nN = some P1.m.cls := findClass_of_methodNamed hP1m
  have ecls : N.cN = P1.m.cls := Option.some.inj (hcN.symm.trans hfound)
  have hk : s.vm.classes[P1.m.cls]? = some N.kN := by rw [← ecls]; exact LN.cls
  have hinit := Cond.initialized_spec hfound hk (a' (.initialized Bundle.nN) (by simp [Bundle.npeArmAtoms]))
  have hctor : N.kN.findMethod "<init>" "()V" = some P1.m.idx := findMethod_of_methodNamed hP1m hk
  obtain ⟨c1, k1, hc1, hk1, -, -, -, hn⟩ := Cond.instantiable_spec (a' (.instantiable Bundle.nN n) (by simp [Bundle.npeArmAtoms]))
  cases Option.some.inj (hc1.symm.trans hfound)
  cases Option.some.inj (hk1.symm.trans hk)
  have hfsz : (freshCell P1.m.cls N.kN).slots.size = n := by simp [hn]
  have hlink1 : P1.sup = PR.m := Option.some.inj (hP1s.symm.trans hPRm)
  have hlinkR : PR.sup = PE.m := Option.some.inj (hPRs.symm.trans hPEm)
  have hlinkE : PE.sup = Z.m T.toThrowableT := Option.some.inj (hPEs.symm.trans Y.init0)
  have hLs : ∀ P, P ∈ [PR, PE] → P.Links0 e.platform s := fun P hP => by
    simp only [List.mem_cons, List.not_mem_nil, or_false] at hP
    rcases hP with rfl | rfl
    · exact LR
    · exact LEx
  have hsel0 : selectMethod e.platform s.vm P1.m.cls T.fill0 = .method T.fill0 := by
    obtain ⟨c2, r2, m2, q1, q2, q3, q4, -⟩ := Cond.selects_spec (a' (.selects Bundle.nN Bundle.tFill0 Bundle.tFill0) (by simp [Bundle.npeArmAtoms]))
    cases Option.some.inj (q1.symm.trans hfound)
    cases Option.some.inj (q2.symm.trans (State.methodFound?_of_named Y.fill0 (by decide)))
    cases Option.some.inj (q3.symm.trans Y.fill0)
    rw [Launch.admits_selectMethod X.admits]; exact q4
  have hselF : selectMethod e.platform s.vm P1.m.cls T.fill = .method N.fill := by
    obtain ⟨c2, r2, m2, q1, q2, q3, q4, -⟩ := Cond.selects_spec (a' (.selects Bundle.nN Bundle.tFill Bundle.nFill) (by simp [Bundle.npeArmAtoms]))
    cases Option.some.inj (q1.symm.trans hfound)
    cases Option.some.inj (q2.symm.trans (State.methodFound?_of_named Y.fill (by decide)))
    cases Option.some.inj (q3.symm.trans hnNF)
    rw [Launch.admits_selectMethod X.admits]; exact q4
  obtain ⟨cellS0, hcS0, hiss⟩ := Y.statics
  obtain ⟨u0, hu0⟩ := Cond.staticRefV Y.unassigned L.unassignedStatic L.statics hcS0 hiss (a' (.isRef (.static Bundle.tN "UNASSIGNED_STACK" Bundle.steD)) (by simp [Bundle.npeArmAtoms]))
  obtain ⟨sen, hsen⟩ := Cond.staticRefV Y.sentinel L.sentinelStatic L.statics hcS0 hiss (a' (.isRef (.static Bundle.tN "SUPPRESSED_SENTINEL" Bundle.listD)) (by simp [Bundle.npeArmAtoms]))
  obtain ⟨ci198, i198, fB, hk198, hg198, ha198, hsB, -, hnB, htB, hffB⟩ := Cond.ownField (t := .object "java/lang/Object") Y.found L.cls (by decide +kernel) (a' (.fieldLink Bundle.tN 198 Bundle.tN "backtrace" Bundle.objD) (by simp [Bundle.npeArmAtoms])) (a' (.lays Bundle.tN Bundle.tN "backtrace" Bundle.objD) (by simp [Bundle.npeArmAtoms])) e.platform hpl
  obtain ⟨cellS, hcS', heS, -, hkeep⟩ := X.same.2.2.2.2.2 T.aS cellS0 hcS0
  have hcellS : W.heap[T.aS]? = some cellS := hcS'
  have hout' : ∀ i, (⟨T.aS, i⟩ : Loc) ∉ locs := fun i hmem => by
    have := hlocs _ hmem cellS0 hcS0
    rw [hiss] at this; cases this
  have hknownS : cellS.vm ≠ .unknown := by
    rw [heS]; intro hu
    rw [show cellS0.vm = .unknown from hu] at hiss
    cases hiss
  have hvU : cellS.slots[T.fUnassigned.slot]? = some u0.v := by rw [hkeep _ (hout' _)]; exact hu0
  have hvSen : cellS.slots[T.fSentinel.slot]? = some sen.v := by rw [hkeep _ (hout' _)]; exact hsen
  obtain ⟨tyC, dC, hdC, hdnC⟩ := Cond.laysAt hfound hk Y.cause (a' (.lays Bundle.nN Bundle.tN "cause" "Ljava/lang/Throwable;") (by simp [Bundle.npeArmAtoms]))
  obtain ⟨tyS, dS, hdS, hdnS⟩ := Cond.laysAt hfound hk Y.stack (a' (.lays Bundle.nN Bundle.tN "stackTrace" Bundle.steD) (by simp [Bundle.npeArmAtoms]))
  obtain ⟨tyP, dP, hdP, hdnP⟩ := Cond.laysAt hfound hk Y.supp (a' (.lays Bundle.nN Bundle.tN "suppressedExceptions" Bundle.listD) (by simp [Bundle.npeArmAtoms]))
  obtain ⟨tyX, dX, hdX, hdnX⟩ := Cond.laysAt hfound hk hffS (a' (.lays Bundle.nN Bundle.nN "extendedMessageState" "I") (by simp [Bundle.npeArmAtoms, Bundle.npeAtoms]))
  obtain ⟨hnX, htX⟩ := State.fieldFound?_type hffS (t := .int) (by decide +kernel)
  have xC := Cond.laysApart hdC hdX hdnC hdnX (by rw [hnX, Y.causeName]; decide)
  have xS := Cond.laysApart hdS hdX hdnS hdnX (by rw [hnX, Y.stackName]; decide)
  have xP := Cond.laysApart hdP hdX hdnP hdnX (by rw [hnX, Y.suppName]; decide)
  have hv0 : (freshCell P1.m.cls N.kN).slots[N.fState.slot]? = some (.int 0) := by
    have := fresh_default (c := P1.m.cls) tyX
    rw [htX] at this; exact this
  obtain ⟨tyB, dB, hdB, hdnB⟩ := Cond.laysAt hfound hk hffB (a' (.lays Bundle.nN Bundle.tN "backtrace" Bundle.objD) (by simp [Bundle.npeArmAtoms]))
  have bC := Cond.laysApart hdB hdC hdnB hdnC (by rw [hnB, Y.causeName]; decide)
  have bS := Cond.laysApart hdB hdS hdnB hdnS (by rw [hnB, Y.stackName]; decide)
  have bP := Cond.laysApart hdB hdP hdnB hdnP (by rw [hnB, Y.suppName]; decide)
  have bX := Cond.laysApart hdB hdX hdnB hdnX (by rw [hnB, hnX]; decide)
  have hbk : ((npeCell N.toNpeT (preparedCellV T.toThrowableT (freshCell P1.m.cls N.kN) W.heap.size u0 sen) W.cur).withEntry W.cur).slots[fB.slot]? = some .null := by
    have := fresh_default (c := P1.m.cls) tyB
    rw [htB] at this
    simpa [npeCell, preparedCellV, Cell.setSlot, Cell.withEntry, Array.getElem?_setIfInBounds, bC, bS, bP, bX, bC.symm, bS.symm, bP.symm, bX.symm, defaultValue] using this
  have tkC := Takes.of_laid (v := .ref W.heap.size) hk hordN tyC (by rw [Y.causeType]; rfl)
  have tkS := Takes.of_laid (v := u0.v) hk hordN tyS (by rw [Y.stackType]; exact fits_refV_array _ u0)
  have tkP := Takes.of_laid (v := sen.v) hk hordN tyP (by rw [Y.suppType]; exact fits_refV_object _ sen)
  have tkX := Takes.of_laid (v := .int 1) hk hordN tyX (by rw [htX]; rfl)
  have hskip : SkipFacts T e.platform s (fun u => u) u0 ((npeCell N.toNpeT (preparedCellV T.toThrowableT (freshCell P1.m.cls N.kN) W.heap.size u0 sen) W.cur).withEntry W.cur) := ⟨{ ci198 := ci198, i198 := i198, fBack := fB }, ⟨hk198, hg198, ha198, hsB⟩, hbk, fun _ _ => rfl⟩
  obtain ⟨vm', X3, st, -⟩ := X.throwsNpeColdBareVAt hexec hg hsize T L Z LZ N LN P1 L1 [PR, PE] hLs hlink1 ⟨hlinkR, hlinkE, trivial⟩ hfound hk hinit hordN hctor hsel0 hselF hcellS hknownS hvU hvSen
    hv0 xC xS xP tkC tkS tkP tkX Y.objLocals hskip (fun _ _ hA hW _ hroom _ hrest => L.nativeOff p htr hA hW hroom hrest) (by simpa using hRframes) hRlocals (by simp) hRcells (by rw [hn]; exact hRslots)
  have hlt : W.heap.size < ((W.pushCell (freshCell P1.m.cls N.kN)).setVm vm').heap.size := by
    show W.heap.size < (W.pushCell (freshCell P1.m.cls N.kN)).heap.size
    rw [State.heap_size_pushCell]; omega
  rw [hfsz] at X3
  obtain ⟨g₁, hfrM⟩ := X3.frames_eq
  have hU : ((((W.pushCell (freshCell P1.m.cls N.kN)).setVm vm').setCell W.heap.size (npeBareV T.toThrowableT N.toNpeT (freshCell P1.m.cls N.kN) W.heap.size u0 sen)).setTop g).pushFrame (.throwing W.heap.size) = (((W.pushCell (freshCell P1.m.cls N.kN)).setVm vm').setCell W.heap.size (npeBareV T.toThrowableT N.toNpeT (freshCell P1.m.cls N.kN) W.heap.size u0 sen)).setFrames (.throwing W.heap.size :: .java g :: below) := by
    rw [State.pushFrame, State.frames_setTop _ hfrM, State.setTop_of_frames _ hfrM, State.setFrames_setFrames]
  refine ⟨_, W.heap.size, _, fun target ht => st.trans (by rw [← hU]; exact ht), X3.forget (fun y hy => ?_), heapAt_setCell_self _ hlt, hfound, rfl⟩
  simp only [List.mem_cons, List.not_mem_nil, or_false] at hy
  have hge : s.heap.size ≤ W.heap.size := X.same.2.1
  rcases hy with rfl | rfl | rfl | rfl | rfl <;> exact hge
/-- the words of a machine's NullPointerException, but the four that speak of the heap -/
def vx_atN (n : Nat) : List Cond := (Bundle.npeArmAtoms n).filter vx_no
/-- the words of a machine's throw with a message, but the four that speak of the heap -/
def vx_atM (X : String) (names : List String) : List Cond := (Bundle.messageArmAtoms X names).filter vx_no
section
variable {p : Program} {l : Launch} {e : Env} {R : Room} {s : State} {m : MethodId} {args : Array Value} {below : List Frame} {meth : Method} {c : Code} {H : Heap} {locs : List Loc} {cells slots : Nat}
/-- a frame seen from a rebased start, seen from the first start again -/
theorem vx_back9 {T S : State} {R' : Room} {k n : Nat} (X : Stand p l e R s m args below meth c T locs cells slots) (Y : Stand p l e R' ((T.setVm s.vm).setFrames (.invoking m args :: below)) m args below meth c T [] 0 0) (Z : Stand p l e R' ((T.setVm s.vm).setFrames (.invoking m args :: below)) m args below meth c S [] k n) :
    Stand p l e R s m args below meth c S locs (cells + k) (slots + n) := by
  have hW0 : s.WarmedH ((T.setVm s.vm).setFrames (.invoking m args :: below)).vm := State.WarmedH.refl s
  refine { admits := X.admits, cas := X.cas, clock := X.clock, frames := X.frames, room := X.room, hears := X.hears, method := X.method, code := X.code, here := Z.here, tail := Z.tail, warmed := State.WarmedH.trans hW0 Z.warmed, limits := Z.limits.trans (Y.limits.symm.trans X.limits), bytes := Z.bytes.trans (Y.bytes.symm.trans X.bytes), same := ?_ }
  obtain ⟨e1, e2⟩ := Z.same
  rw [State.setFrames_setFrames] at e1
  have h2 : (T.setVm s.vm).sameButNew (S.setVm s.vm) [] k n := ⟨e1, e2⟩
  have h3 := X.same.trans h2
  rw [List.append_nil] at h3
  exact h3
/-- from the machine's note that E is thrown here with this text -/
def vx_Note (p : Program) (l : Launch) (e : Env) (R : Room) (s : State) (m : MethodId) (args : Array Value) (below : List Frame) (meth : Method) (c : Code) (H : Heap) (locs : List Loc) (cells slots : Nat) (Q : State → Prop) (g : JFrame) (E text : String) : Prop :=
  ∀ T : State, T.heap = H → Stand p l e R s m args below meth c T locs cells slots → ∃ t, Steps p.tables e below ((T.setTop g).pushFrame (.throwNew E (some text) none)) t ∧ Q t
theorem vx_vm {pc : Nat} {ls : Array Slot} {rest : List Value} {Q : State → Prop} (hexec : p.tables.exec = Jvm.exec) (hl : l.stackTraces = false) {cls text : String} {names : List String} {nb : Nat} {A : Nat → Prop}
    (hcls : Bundle.fit cls = true) (hnames : ∀ n ∈ names, Bundle.fit n = true) (hsoe : (cls == "java/lang/StackOverflowError") = false) (hoom : (cls == "java/lang/OutOfMemoryError") = false)
    (hat : ∀ w ∈ vx_atM cls names, w.before args s = true) (hgood : ∀ w ∈ vx_atM cls names, vx_ot w = true)
    (hU : vx_Zq Bundle.tN "UNASSIGNED_STACK" Bundle.steD A s s.heap) (hN : vx_Zq Bundle.tN "SUPPRESSED_SENTINEL" Bundle.listD A s s.heap) (hS : va_S A s.heap H locs) (hsize : ls.size = c.maxLocals)
    (htext : (text == notModelled) = false) (hnb : (stringBytes (stringToUtf16 text)).size ≤ nb) (hnb1 : nb ≤ 1000)
    (hRframes : names.length + 4 < R.frames) (hRlocals : (rest.map fun v => v.category).sum + 10240 ≤ R.locals) (hshort : 13 * names.length + 55 ≤ 10240) (hRcells : cells + 3 ≤ R.cells) (hRslots : slots + (nb + 10) ≤ R.slots) (hlocks : meth.locks = false)
    (k : ∀ (H1 : Heap) (q9 : Addr) (ce : Cell), H.size ≤ H1.size → (∀ q : Nat, q < H.size → H1[q]? = H[q]?) → va_S A s.heap H1 locs → H1[q9]? = some ce → ce.vm = .none → s.vm.findClass cls = some ce.cls → vx_W p l e R s m args below meth c H1 locs (cells + 3) (slots + (nb + 10)) Q (F0 m pc ls rest) q9) :
    vx_Note p l e R s m args below meth c H locs cells slots Q (F0 m pc ls rest) cls text := by
  intro T hT X
  have htr : e.platform.stackTraces = false := (show e.platform.stackTraces = l.stackTraces by rw [X.admits.platform]).trans hl
  have Y := vx_rebase X (R' := { frames := R.frames, locals := R.locals, cells := 3, slots := nb + 10 }) (Nat.le_refl _) (Nat.le_refl _) hRcells hRslots
  have hhp : ((T.setVm s.vm).setFrames (.invoking m args :: below)).heap = H := hT
  have hW0 : s.WarmedH ((T.setVm s.vm).setFrames (.invoking m args :: below)).vm := State.WarmedH.refl s
  have hat' : ∀ w ∈ vx_atM cls names, w.before args ((T.setVm s.vm).setFrames (.invoking m args :: below)) = true := fun w hw => vx_ot_at hW0 rfl (hgood w hw) (hat w hw)
  have hU' : vx_Zq Bundle.tN "UNASSIGNED_STACK" Bundle.steD A ((T.setVm s.vm).setFrames (.invoking m args :: below)) ((T.setVm s.vm).setFrames (.invoking m args :: below)).heap := by rw [hhp]; exact vx_Zq.moved hW0.alike (hU.kept hS.2.1)
  have hN' : vx_Zq Bundle.tN "SUPPRESSED_SENTINEL" Bundle.listD A ((T.setVm s.vm).setFrames (.invoking m args :: below)) ((T.setVm s.vm).setFrames (.invoking m args :: below)).heap := by rw [hhp]; exact vx_Zq.moved hW0.alike (hN.kept hS.2.1)
  obtain ⟨S, q, ce, st, Z, hce, hcl', hv⟩ := vx_vmAt Y hexec htr (cls := cls) (names := names) (text := text) hcls hnames hsoe hoom (vx_own hat' (vx_isRefq hU'.1) (vx_isRefq hN'.1) hU'.2.word hN'.2.word) (fun x hx => nomatch hx) htext
    (by rw [Launch.admits_arrayLengthLimit X.admits]; omega) (by rw [Launch.admits_maxHeapBytes X.admits]; simp only [componentBytes]; omega)
    (g := F0 m pc ls rest) rfl hsize hRframes (by show 2 * 0 + (rest.map fun v => v.category).sum + 10240 ≤ R.locals; omega) hshort (by show 0 + 3 ≤ 3; omega) (by show 0 + (_ + 4 + 6) ≤ nb + 10; omega) hlocks
  obtain ⟨f1, f2⟩ := vx_frame Z.same
  have f1' : H.size ≤ S.heap.size := by rw [← hT]; exact f1
  have f2' : ∀ q : Nat, q < H.size → S.heap[q]? = H[q]? := fun q hq => by
    rw [← hT]
    exact f2 q (by rw [← hT] at hq; exact hq) (fun z hz => nomatch hz)
  have X5 := vx_back9 X Y Z
  have X6 : Stand p l e R s m args below meth c S locs (cells + 3) (slots + (nb + 10)) := { X5 with same := X5.same.mono (by omega) (by omega) }
  obtain ⟨t, a1, b1⟩ := k S.heap q ce f1' f2' ⟨Nat.le_trans hS.1 f1', fun q h1 h2 => (f2' q (Nat.lt_of_lt_of_le h1 hS.1)).trans (hS.2.1 q h1 h2), hS.2.2⟩ hce hv hcl' S rfl X6
  exact ⟨t, st t a1, b1⟩
/-- from the machine's note that NullPointerException is thrown here -/
def vx_NoteN (p : Program) (l : Launch) (e : Env) (R : Room) (s : State) (m : MethodId) (args : Array Value) (below : List Frame) (meth : Method) (c : Code) (H : Heap) (locs : List Loc) (cells slots : Nat) (Q : State → Prop) (g : JFrame) : Prop :=
  ∀ T : State, T.heap = H → Stand p l e R s m args below meth c T locs cells slots → ∃ t, Steps p.tables e below ((T.setTop g).pushFrame (.throwNew "java/lang/NullPointerException" none none)) t ∧ Q t
theorem vx_npe {pc : Nat} {ls : Array Slot} {rest : List Value} {Q : State → Prop} (hexec : p.tables.exec = Jvm.exec) (hl : l.stackTraces = false) {nb : Nat} {A : Nat → Prop}
    (hat : ∀ w ∈ vx_atN nb, w.before args s = true) (hgood : ∀ w ∈ vx_atN nb, vx_ot w = true)
    (hU : vx_Zq Bundle.tN "UNASSIGNED_STACK" Bundle.steD A s s.heap) (hN : vx_Zq Bundle.tN "SUPPRESSED_SENTINEL" Bundle.listD A s s.heap) (hS : va_S A s.heap H locs) (hsize : ls.size = c.maxLocals)
    (hRframes : 7 < R.frames) (hRlocals : (rest.map fun v => v.category).sum + 10240 ≤ R.locals) (hRcells : cells + 1 ≤ R.cells) (hRslots : slots + nb ≤ R.slots) (hlocks : meth.locks = false)
    (k : ∀ (H1 : Heap) (q9 : Addr) (ce : Cell), H.size ≤ H1.size → (∀ q : Nat, q < H.size → H1[q]? = H[q]?) → va_S A s.heap H1 locs → H1[q9]? = some ce → ce.vm = .none → s.vm.findClass "java/lang/NullPointerException" = some ce.cls → vx_W p l e R s m args below meth c H1 locs (cells + 1) (slots + nb) Q (F0 m pc ls rest) q9) :
    vx_NoteN p l e R s m args below meth c H locs cells slots Q (F0 m pc ls rest) := by
  intro T hT X
  have htr : e.platform.stackTraces = false := (show e.platform.stackTraces = l.stackTraces by rw [X.admits.platform]).trans hl
  have Y := vx_rebase X (R' := { frames := R.frames, locals := R.locals, cells := 1, slots := nb }) (Nat.le_refl _) (Nat.le_refl _) hRcells hRslots
  have hhp : ((T.setVm s.vm).setFrames (.invoking m args :: below)).heap = H := hT
  have hW0 : s.WarmedH ((T.setVm s.vm).setFrames (.invoking m args :: below)).vm := State.WarmedH.refl s
  have hat' : ∀ w ∈ vx_atN nb, w.before args ((T.setVm s.vm).setFrames (.invoking m args :: below)) = true := fun w hw => vx_ot_at hW0 rfl (hgood w hw) (hat w hw)
  have hU' : vx_Zq Bundle.tN "UNASSIGNED_STACK" Bundle.steD A ((T.setVm s.vm).setFrames (.invoking m args :: below)) ((T.setVm s.vm).setFrames (.invoking m args :: below)).heap := by rw [hhp]; exact vx_Zq.moved hW0.alike (hU.kept hS.2.1)
  have hN' : vx_Zq Bundle.tN "SUPPRESSED_SENTINEL" Bundle.listD A ((T.setVm s.vm).setFrames (.invoking m args :: below)) ((T.setVm s.vm).setFrames (.invoking m args :: below)).heap := by rw [hhp]; exact vx_Zq.moved hW0.alike (hN.kept hS.2.1)
  obtain ⟨S, q, ce, st, Z, hce, hcl', hv⟩ := vx_npeAt Y hexec htr (n := nb) (vx_own hat' (vx_isRefq hU'.1) (vx_isRefq hN'.1) hU'.2.word hN'.2.word) (fun x hx => nomatch hx)
    (g := F0 m pc ls rest) rfl hsize hRframes (by show 2 * 0 + (rest.map fun v => v.category).sum + 10240 ≤ R.locals; omega) (by show 0 + 1 ≤ 1; omega) (by show 0 + nb ≤ nb; omega) hlocks
  obtain ⟨f1, f2⟩ := vx_frame Z.same
  have f1' : H.size ≤ S.heap.size := by rw [← hT]; exact f1
  have f2' : ∀ q : Nat, q < H.size → S.heap[q]? = H[q]? := fun q hq => by
    rw [← hT]
    exact f2 q (by rw [← hT] at hq; exact hq) (fun z hz => nomatch hz)
  have X5 := vx_back9 X Y Z
  have X6 : Stand p l e R s m args below meth c S locs (cells + 1) (slots + nb) := { X5 with same := X5.same.mono (by omega) (by omega) }
  obtain ⟨t, a1, b1⟩ := k S.heap q ce f1' f2' ⟨Nat.le_trans hS.1 f1', fun q h1 h2 => (f2' q (Nat.lt_of_lt_of_le h1 hS.1)).trans (hS.2.1 q h1 h2), hS.2.2⟩ hce hv hcl' S rfl X6
  exact ⟨t, st t a1, b1⟩
variable {Q : State → Prop} {cc : ByteArray} {pc : Nat} {ls : Array Slot} {rest : List Value}
theorem vx_idivZ (hexec : p.tables.exec = Jvm.exec) (hb : c.code = cc) {a b : Int32} (h0 : b = 0) (d : decode cc pc = .ok (.idiv, 1)) (k : vx_Note p l e R s m args below meth c H locs cells slots Q (F0 m pc ls rest) "java/lang/ArithmeticException" "/ by zero") :
    W p l e R s m args below meth c H locs cells slots Q (F0 m pc ls (.int b :: .int a :: rest)) := by
  intro T hT X
  obtain ⟨t, st, q⟩ := k T hT X
  exact ⟨t, X.idivZero hexec (g := F0 m pc ls (.int b :: .int a :: rest)) rfl (a := a) (rest := rest) (by rw [h0]) (by rw [hb]; exact d) t st, q⟩
theorem vx_iremZ (hexec : p.tables.exec = Jvm.exec) (hb : c.code = cc) {a b : Int32} (h0 : b = 0) (d : decode cc pc = .ok (.irem, 1)) (k : vx_Note p l e R s m args below meth c H locs cells slots Q (F0 m pc ls rest) "java/lang/ArithmeticException" "/ by zero") :
    W p l e R s m args below meth c H locs cells slots Q (F0 m pc ls (.int b :: .int a :: rest)) := by
  intro T hT X
  obtain ⟨t, st, q⟩ := k T hT X
  exact ⟨t, X.iremZero hexec (g := F0 m pc ls (.int b :: .int a :: rest)) rfl (a := a) (rest := rest) (by rw [h0]) (by rw [hb]; exact d) t st, q⟩
theorem vx_ldivZ (hexec : p.tables.exec = Jvm.exec) (hb : c.code = cc) {a b : Int64} (h0 : b = 0) (d : decode cc pc = .ok (.ldiv, 1)) (k : vx_Note p l e R s m args below meth c H locs cells slots Q (F0 m pc ls rest) "java/lang/ArithmeticException" "/ by zero") :
    W p l e R s m args below meth c H locs cells slots Q (F0 m pc ls (.long b :: .long a :: rest)) := by
  intro T hT X
  obtain ⟨t, st, q⟩ := k T hT X
  exact ⟨t, X.ldivZero hexec (g := F0 m pc ls (.long b :: .long a :: rest)) rfl (a := a) (rest := rest) (by rw [h0]) (by rw [hb]; exact d) t st, q⟩
theorem vx_lremZ (hexec : p.tables.exec = Jvm.exec) (hb : c.code = cc) {a b : Int64} (h0 : b = 0) (d : decode cc pc = .ok (.lrem, 1)) (k : vx_Note p l e R s m args below meth c H locs cells slots Q (F0 m pc ls rest) "java/lang/ArithmeticException" "/ by zero") :
    W p l e R s m args below meth c H locs cells slots Q (F0 m pc ls (.long b :: .long a :: rest)) := by
  intro T hT X
  obtain ⟨t, st, q⟩ := k T hT X
  exact ⟨t, X.lremZero hexec (g := F0 m pc ls (.long b :: .long a :: rest)) rfl (a := a) (rest := rest) (by rw [h0]) (by rw [hb]; exact d) t st, q⟩
theorem vx_ialdZ {D : va_G} {cl : List vw_C} {ws : va_W} {tys : List (ClassId × FieldType)} {a : Nat} (hexec : p.tables.exec = Jvm.exec) (hb : c.code = cc) (hK : va_K D cl tys s) (hP : va_P D cl ws H) (q0 t0 : Nat) {cA : ClassId} {n : Nat} {f : Nat → Int32} (ha : ws[q0]? = some (a, .inl (cA, n, .inl f))) (ht : tys[t0]? = some (cA, .int)) {i : Int32} (hout : ¬ vp_in i n) (hdg : decode cc pc = .ok (.iaload, 1))
    (k : ∀ tx : String, tx = (toString "Index " ++ toString i ++ toString " out of bounds for length " ++ toString n : String) → vx_Note p l e R s m args below meth c H locs cells slots Q (F0 m pc ls rest) "java/lang/ArrayIndexOutOfBoundsException" tx) : W p l e R s m args below meth c H locs cells slots Q (F0 m pc ls (.int i :: .ref a :: rest)) := by
  intro T hT X
  obtain ⟨t, st, q⟩ := k _ rfl T hT X
  refine ⟨t, ?_, q⟩
  have h1 := X.ialoadOut hexec (by rw [hT]; exact hP q0 _ ha) ((hK.2 t0 _ ht).1 n (fun j => .int (f j))) (j := i) (by show (i < 0 ∨ (arrV _ _ _).slots.size ≤ _); rw [arrV_size]; exact Classical.byContradiction hout) (g := F0 m pc ls (.int i :: .ref a :: rest)) rfl (rest := rest) rfl (by rw [hb]; exact hdg) t
  simp only [arrV_size] at h1
  exact h1 st
theorem vx_iastZ {D : va_G} {cl : List vw_C} {ws : va_W} {tys : List (ClassId × FieldType)} {a : Nat} (hexec : p.tables.exec = Jvm.exec) (hb : c.code = cc) (hK : va_K D cl tys s) (hP : va_P D cl ws H) (q0 t0 : Nat) {cA : ClassId} {n : Nat} {f : Nat → Int32} (ha : ws[q0]? = some (a, .inl (cA, n, .inl f))) (ht : tys[t0]? = some (cA, .int)) {i : Int32} {x : Int32} (hout : ¬ vp_in i n) (hdg : decode cc pc = .ok (.iastore, 1))
    (k : ∀ tx : String, tx = (toString "Index " ++ toString i ++ toString " out of bounds for length " ++ toString n : String) → vx_Note p l e R s m args below meth c H locs cells slots Q (F0 m pc ls rest) "java/lang/ArrayIndexOutOfBoundsException" tx) : W p l e R s m args below meth c H locs cells slots Q (F0 m pc ls (.int x :: .int i :: .ref a :: rest)) := by
  intro T hT X
  obtain ⟨t, st, q⟩ := k _ rfl T hT X
  refine ⟨t, ?_, q⟩
  have h1 := X.iastoreOut hexec (by rw [hT]; exact hP q0 _ ha) ((hK.2 t0 _ ht).1 n (fun j => .int (f j))) (j := i) (by show (i < 0 ∨ (arrV _ _ _).slots.size ≤ _); rw [arrV_size]; exact Classical.byContradiction hout) (g := F0 m pc ls (.int x :: .int i :: .ref a :: rest)) rfl (rest := rest) rfl (by rw [hb]; exact hdg) t
  simp only [arrV_size] at h1
  exact h1 st
theorem vx_baldZ {D : va_G} {cl : List vw_C} {ws : va_W} {tys : List (ClassId × FieldType)} {a : Nat} (hexec : p.tables.exec = Jvm.exec) (hb : c.code = cc) (hK : va_K D cl tys s) (hP : va_P D cl ws H) (q0 t0 : Nat) {cA : ClassId} {n : Nat} {f : Nat → Int32} (ha : ws[q0]? = some (a, .inl (cA, n, .inl f))) (ht : tys[t0]? = some (cA, .byte)) {i : Int32} (hout : ¬ vp_in i n) (hdg : decode cc pc = .ok (.baload, 1))
    (k : ∀ tx : String, tx = (toString "Index " ++ toString i ++ toString " out of bounds for length " ++ toString n : String) → vx_Note p l e R s m args below meth c H locs cells slots Q (F0 m pc ls rest) "java/lang/ArrayIndexOutOfBoundsException" tx) : W p l e R s m args below meth c H locs cells slots Q (F0 m pc ls (.int i :: .ref a :: rest)) := by
  intro T hT X
  obtain ⟨t, st, q⟩ := k _ rfl T hT X
  refine ⟨t, ?_, q⟩
  have h1 := X.baloadOut hexec (by rw [hT]; exact hP q0 _ ha) ((hK.2 t0 _ ht).1 n (fun j => .int (f j))) (j := i) (by show (i < 0 ∨ (arrV _ _ _).slots.size ≤ _); rw [arrV_size]; exact Classical.byContradiction hout) (g := F0 m pc ls (.int i :: .ref a :: rest)) rfl (rest := rest) rfl (by rw [hb]; exact hdg) t
  simp only [arrV_size] at h1
  exact h1 st
theorem vx_bastZ {D : va_G} {cl : List vw_C} {ws : va_W} {tys : List (ClassId × FieldType)} {a : Nat} (hexec : p.tables.exec = Jvm.exec) (hb : c.code = cc) (hK : va_K D cl tys s) (hP : va_P D cl ws H) (q0 t0 : Nat) {cA : ClassId} {n : Nat} {f : Nat → Int32} (ha : ws[q0]? = some (a, .inl (cA, n, .inl f))) (ht : tys[t0]? = some (cA, .byte)) {i : Int32} {x : Int32} (hout : ¬ vp_in i n) (hdg : decode cc pc = .ok (.bastore, 1))
    (k : ∀ tx : String, tx = (toString "Index " ++ toString i ++ toString " out of bounds for length " ++ toString n : String) → vx_Note p l e R s m args below meth c H locs cells slots Q (F0 m pc ls rest) "java/lang/ArrayIndexOutOfBoundsException" tx) : W p l e R s m args below meth c H locs cells slots Q (F0 m pc ls (.int x :: .int i :: .ref a :: rest)) := by
  intro T hT X
  obtain ⟨t, st, q⟩ := k _ rfl T hT X
  refine ⟨t, ?_, q⟩
  have h1 := X.bastoreOut hexec (by rw [hT]; exact hP q0 _ ha) ((hK.2 t0 _ ht).1 n (fun j => .int (f j))) (j := i) (by show (i < 0 ∨ (arrV _ _ _).slots.size ≤ _); rw [arrV_size]; exact Classical.byContradiction hout) (g := F0 m pc ls (.int x :: .int i :: .ref a :: rest)) rfl (rest := rest) rfl (by rw [hb]; exact hdg) t
  simp only [arrV_size] at h1
  exact h1 st
theorem vx_zaldZ {D : va_G} {cl : List vw_C} {ws : va_W} {tys : List (ClassId × FieldType)} {a : Nat} (hexec : p.tables.exec = Jvm.exec) (hb : c.code = cc) (hK : va_K D cl tys s) (hP : va_P D cl ws H) (q0 t0 : Nat) {cA : ClassId} {n : Nat} {f : Nat → Int32} (ha : ws[q0]? = some (a, .inl (cA, n, .inl f))) (ht : tys[t0]? = some (cA, .boolean)) {i : Int32} (hout : ¬ vp_in i n) (hdg : decode cc pc = .ok (.baload, 1))
    (k : ∀ tx : String, tx = (toString "Index " ++ toString i ++ toString " out of bounds for length " ++ toString n : String) → vx_Note p l e R s m args below meth c H locs cells slots Q (F0 m pc ls rest) "java/lang/ArrayIndexOutOfBoundsException" tx) : W p l e R s m args below meth c H locs cells slots Q (F0 m pc ls (.int i :: .ref a :: rest)) := by
  intro T hT X
  obtain ⟨t, st, q⟩ := k _ rfl T hT X
  refine ⟨t, ?_, q⟩
  have h1 := X.baloadOut hexec (by rw [hT]; exact hP q0 _ ha) ((hK.2 t0 _ ht).1 n (fun j => .int (f j))) (j := i) (by show (i < 0 ∨ (arrV _ _ _).slots.size ≤ _); rw [arrV_size]; exact Classical.byContradiction hout) (g := F0 m pc ls (.int i :: .ref a :: rest)) rfl (rest := rest) rfl (by rw [hb]; exact hdg) t
  simp only [arrV_size] at h1
  exact h1 st
theorem vx_zastZ {D : va_G} {cl : List vw_C} {ws : va_W} {tys : List (ClassId × FieldType)} {a : Nat} (hexec : p.tables.exec = Jvm.exec) (hb : c.code = cc) (hK : va_K D cl tys s) (hP : va_P D cl ws H) (q0 t0 : Nat) {cA : ClassId} {n : Nat} {f : Nat → Int32} (ha : ws[q0]? = some (a, .inl (cA, n, .inl f))) (ht : tys[t0]? = some (cA, .boolean)) {i : Int32} {x : Int32} (hout : ¬ vp_in i n) (hdg : decode cc pc = .ok (.bastore, 1))
    (k : ∀ tx : String, tx = (toString "Index " ++ toString i ++ toString " out of bounds for length " ++ toString n : String) → vx_Note p l e R s m args below meth c H locs cells slots Q (F0 m pc ls rest) "java/lang/ArrayIndexOutOfBoundsException" tx) : W p l e R s m args below meth c H locs cells slots Q (F0 m pc ls (.int x :: .int i :: .ref a :: rest)) := by
  intro T hT X
  obtain ⟨t, st, q⟩ := k _ rfl T hT X
  refine ⟨t, ?_, q⟩
  have h1 := X.bastoreOut hexec (by rw [hT]; exact hP q0 _ ha) ((hK.2 t0 _ ht).1 n (fun j => .int (f j))) (j := i) (by show (i < 0 ∨ (arrV _ _ _).slots.size ≤ _); rw [arrV_size]; exact Classical.byContradiction hout) (g := F0 m pc ls (.int x :: .int i :: .ref a :: rest)) rfl (rest := rest) rfl (by rw [hb]; exact hdg) t
  simp only [arrV_size] at h1
  exact h1 st
theorem vx_caldZ {D : va_G} {cl : List vw_C} {ws : va_W} {tys : List (ClassId × FieldType)} {a : Nat} (hexec : p.tables.exec = Jvm.exec) (hb : c.code = cc) (hK : va_K D cl tys s) (hP : va_P D cl ws H) (q0 t0 : Nat) {cA : ClassId} {n : Nat} {f : Nat → Int32} (ha : ws[q0]? = some (a, .inl (cA, n, .inl f))) (ht : tys[t0]? = some (cA, .char)) {i : Int32} (hout : ¬ vp_in i n) (hdg : decode cc pc = .ok (.caload, 1))
    (k : ∀ tx : String, tx = (toString "Index " ++ toString i ++ toString " out of bounds for length " ++ toString n : String) → vx_Note p l e R s m args below meth c H locs cells slots Q (F0 m pc ls rest) "java/lang/ArrayIndexOutOfBoundsException" tx) : W p l e R s m args below meth c H locs cells slots Q (F0 m pc ls (.int i :: .ref a :: rest)) := by
  intro T hT X
  obtain ⟨t, st, q⟩ := k _ rfl T hT X
  refine ⟨t, ?_, q⟩
  have h1 := X.caloadOut hexec (by rw [hT]; exact hP q0 _ ha) ((hK.2 t0 _ ht).1 n (fun j => .int (f j))) (j := i) (by show (i < 0 ∨ (arrV _ _ _).slots.size ≤ _); rw [arrV_size]; exact Classical.byContradiction hout) (g := F0 m pc ls (.int i :: .ref a :: rest)) rfl (rest := rest) rfl (by rw [hb]; exact hdg) t
  simp only [arrV_size] at h1
  exact h1 st
theorem vx_castZ {D : va_G} {cl : List vw_C} {ws : va_W} {tys : List (ClassId × FieldType)} {a : Nat} (hexec : p.tables.exec = Jvm.exec) (hb : c.code = cc) (hK : va_K D cl tys s) (hP : va_P D cl ws H) (q0 t0 : Nat) {cA : ClassId} {n : Nat} {f : Nat → Int32} (ha : ws[q0]? = some (a, .inl (cA, n, .inl f))) (ht : tys[t0]? = some (cA, .char)) {i : Int32} {x : Int32} (hout : ¬ vp_in i n) (hdg : decode cc pc = .ok (.castore, 1))
    (k : ∀ tx : String, tx = (toString "Index " ++ toString i ++ toString " out of bounds for length " ++ toString n : String) → vx_Note p l e R s m args below meth c H locs cells slots Q (F0 m pc ls rest) "java/lang/ArrayIndexOutOfBoundsException" tx) : W p l e R s m args below meth c H locs cells slots Q (F0 m pc ls (.int x :: .int i :: .ref a :: rest)) := by
  intro T hT X
  obtain ⟨t, st, q⟩ := k _ rfl T hT X
  refine ⟨t, ?_, q⟩
  have h1 := X.castoreOut hexec (by rw [hT]; exact hP q0 _ ha) ((hK.2 t0 _ ht).1 n (fun j => .int (f j))) (j := i) (by show (i < 0 ∨ (arrV _ _ _).slots.size ≤ _); rw [arrV_size]; exact Classical.byContradiction hout) (g := F0 m pc ls (.int x :: .int i :: .ref a :: rest)) rfl (rest := rest) rfl (by rw [hb]; exact hdg) t
  simp only [arrV_size] at h1
  exact h1 st
theorem vx_saldZ {D : va_G} {cl : List vw_C} {ws : va_W} {tys : List (ClassId × FieldType)} {a : Nat} (hexec : p.tables.exec = Jvm.exec) (hb : c.code = cc) (hK : va_K D cl tys s) (hP : va_P D cl ws H) (q0 t0 : Nat) {cA : ClassId} {n : Nat} {f : Nat → Int32} (ha : ws[q0]? = some (a, .inl (cA, n, .inl f))) (ht : tys[t0]? = some (cA, .short)) {i : Int32} (hout : ¬ vp_in i n) (hdg : decode cc pc = .ok (.saload, 1))
    (k : ∀ tx : String, tx = (toString "Index " ++ toString i ++ toString " out of bounds for length " ++ toString n : String) → vx_Note p l e R s m args below meth c H locs cells slots Q (F0 m pc ls rest) "java/lang/ArrayIndexOutOfBoundsException" tx) : W p l e R s m args below meth c H locs cells slots Q (F0 m pc ls (.int i :: .ref a :: rest)) := by
  intro T hT X
  obtain ⟨t, st, q⟩ := k _ rfl T hT X
  refine ⟨t, ?_, q⟩
  have h1 := X.saloadOut hexec (by rw [hT]; exact hP q0 _ ha) ((hK.2 t0 _ ht).1 n (fun j => .int (f j))) (j := i) (by show (i < 0 ∨ (arrV _ _ _).slots.size ≤ _); rw [arrV_size]; exact Classical.byContradiction hout) (g := F0 m pc ls (.int i :: .ref a :: rest)) rfl (rest := rest) rfl (by rw [hb]; exact hdg) t
  simp only [arrV_size] at h1
  exact h1 st
theorem vx_sastZ {D : va_G} {cl : List vw_C} {ws : va_W} {tys : List (ClassId × FieldType)} {a : Nat} (hexec : p.tables.exec = Jvm.exec) (hb : c.code = cc) (hK : va_K D cl tys s) (hP : va_P D cl ws H) (q0 t0 : Nat) {cA : ClassId} {n : Nat} {f : Nat → Int32} (ha : ws[q0]? = some (a, .inl (cA, n, .inl f))) (ht : tys[t0]? = some (cA, .short)) {i : Int32} {x : Int32} (hout : ¬ vp_in i n) (hdg : decode cc pc = .ok (.sastore, 1))
    (k : ∀ tx : String, tx = (toString "Index " ++ toString i ++ toString " out of bounds for length " ++ toString n : String) → vx_Note p l e R s m args below meth c H locs cells slots Q (F0 m pc ls rest) "java/lang/ArrayIndexOutOfBoundsException" tx) : W p l e R s m args below meth c H locs cells slots Q (F0 m pc ls (.int x :: .int i :: .ref a :: rest)) := by
  intro T hT X
  obtain ⟨t, st, q⟩ := k _ rfl T hT X
  refine ⟨t, ?_, q⟩
  have h1 := X.sastoreOut hexec (by rw [hT]; exact hP q0 _ ha) ((hK.2 t0 _ ht).1 n (fun j => .int (f j))) (j := i) (by show (i < 0 ∨ (arrV _ _ _).slots.size ≤ _); rw [arrV_size]; exact Classical.byContradiction hout) (g := F0 m pc ls (.int x :: .int i :: .ref a :: rest)) rfl (rest := rest) rfl (by rw [hb]; exact hdg) t
  simp only [arrV_size] at h1
  exact h1 st
theorem vx_laldZ {D : va_G} {cl : List vw_C} {ws : va_W} {tys : List (ClassId × FieldType)} {a : Nat} (hexec : p.tables.exec = Jvm.exec) (hb : c.code = cc) (hK : va_K D cl tys s) (hP : va_P D cl ws H) (q0 t0 : Nat) {cA : ClassId} {n : Nat} {f : Nat → Int64} (ha : ws[q0]? = some (a, .inl (cA, n, .inr (.inl f)))) (ht : tys[t0]? = some (cA, .long)) {i : Int32} (hout : ¬ vp_in i n) (hdg : decode cc pc = .ok (.laload, 1))
    (k : ∀ tx : String, tx = (toString "Index " ++ toString i ++ toString " out of bounds for length " ++ toString n : String) → vx_Note p l e R s m args below meth c H locs cells slots Q (F0 m pc ls rest) "java/lang/ArrayIndexOutOfBoundsException" tx) : W p l e R s m args below meth c H locs cells slots Q (F0 m pc ls (.int i :: .ref a :: rest)) := by
  intro T hT X
  obtain ⟨t, st, q⟩ := k _ rfl T hT X
  refine ⟨t, ?_, q⟩
  have h1 := X.laloadOut hexec (by rw [hT]; exact hP q0 _ ha) ((hK.2 t0 _ ht).1 n (fun j => .long (f j))) (j := i) (by show (i < 0 ∨ (arrV _ _ _).slots.size ≤ _); rw [arrV_size]; exact Classical.byContradiction hout) (g := F0 m pc ls (.int i :: .ref a :: rest)) rfl (rest := rest) rfl (by rw [hb]; exact hdg) t
  simp only [arrV_size] at h1
  exact h1 st
theorem vx_lastZ {D : va_G} {cl : List vw_C} {ws : va_W} {tys : List (ClassId × FieldType)} {a : Nat} (hexec : p.tables.exec = Jvm.exec) (hb : c.code = cc) (hK : va_K D cl tys s) (hP : va_P D cl ws H) (q0 t0 : Nat) {cA : ClassId} {n : Nat} {f : Nat → Int64} (ha : ws[q0]? = some (a, .inl (cA, n, .inr (.inl f)))) (ht : tys[t0]? = some (cA, .long)) {i : Int32} {x : Int64} (hout : ¬ vp_in i n) (hdg : decode cc pc = .ok (.lastore, 1))
    (k : ∀ tx : String, tx = (toString "Index " ++ toString i ++ toString " out of bounds for length " ++ toString n : String) → vx_Note p l e R s m args below meth c H locs cells slots Q (F0 m pc ls rest) "java/lang/ArrayIndexOutOfBoundsException" tx) : W p l e R s m args below meth c H locs cells slots Q (F0 m pc ls (.long x :: .int i :: .ref a :: rest)) := by
  intro T hT X
  obtain ⟨t, st, q⟩ := k _ rfl T hT X
  refine ⟨t, ?_, q⟩
  have h1 := X.lastoreOut hexec (by rw [hT]; exact hP q0 _ ha) ((hK.2 t0 _ ht).1 n (fun j => .long (f j))) (j := i) (by show (i < 0 ∨ (arrV _ _ _).slots.size ≤ _); rw [arrV_size]; exact Classical.byContradiction hout) (g := F0 m pc ls (.long x :: .int i :: .ref a :: rest)) rfl (rest := rest) rfl (by rw [hb]; exact hdg) t
  simp only [arrV_size] at h1
  exact h1 st
theorem vx_faldZ {D : va_G} {cl : List vw_C} {ws : va_W} {tys : List (ClassId × FieldType)} {a : Nat} (hexec : p.tables.exec = Jvm.exec) (hb : c.code = cc) (hK : va_K D cl tys s) (hP : va_P D cl ws H) (q0 t0 : Nat) {cA : ClassId} {n : Nat} {f : Nat → UInt32} (ha : ws[q0]? = some (a, .inl (cA, n, .inr (.inr (.inl f))))) (ht : tys[t0]? = some (cA, .float)) {i : Int32} (hout : ¬ vp_in i n) (hdg : decode cc pc = .ok (.faload, 1))
    (k : ∀ tx : String, tx = (toString "Index " ++ toString i ++ toString " out of bounds for length " ++ toString n : String) → vx_Note p l e R s m args below meth c H locs cells slots Q (F0 m pc ls rest) "java/lang/ArrayIndexOutOfBoundsException" tx) : W p l e R s m args below meth c H locs cells slots Q (F0 m pc ls (.int i :: .ref a :: rest)) := by
  intro T hT X
  obtain ⟨t, st, q⟩ := k _ rfl T hT X
  refine ⟨t, ?_, q⟩
  have h1 := X.faloadOut hexec (by rw [hT]; exact hP q0 _ ha) ((hK.2 t0 _ ht).1 n (fun j => .float (f j))) (j := i) (by show (i < 0 ∨ (arrV _ _ _).slots.size ≤ _); rw [arrV_size]; exact Classical.byContradiction hout) (g := F0 m pc ls (.int i :: .ref a :: rest)) rfl (rest := rest) rfl (by rw [hb]; exact hdg) t
  simp only [arrV_size] at h1
  exact h1 st
theorem vx_fastZ {D : va_G} {cl : List vw_C} {ws : va_W} {tys : List (ClassId × FieldType)} {a : Nat} (hexec : p.tables.exec = Jvm.exec) (hb : c.code = cc) (hK : va_K D cl tys s) (hP : va_P D cl ws H) (q0 t0 : Nat) {cA : ClassId} {n : Nat} {f : Nat → UInt32} (ha : ws[q0]? = some (a, .inl (cA, n, .inr (.inr (.inl f))))) (ht : tys[t0]? = some (cA, .float)) {i : Int32} {x : UInt32} (hout : ¬ vp_in i n) (hdg : decode cc pc = .ok (.fastore, 1))
    (k : ∀ tx : String, tx = (toString "Index " ++ toString i ++ toString " out of bounds for length " ++ toString n : String) → vx_Note p l e R s m args below meth c H locs cells slots Q (F0 m pc ls rest) "java/lang/ArrayIndexOutOfBoundsException" tx) : W p l e R s m args below meth c H locs cells slots Q (F0 m pc ls (.float x :: .int i :: .ref a :: rest)) := by
  intro T hT X
  obtain ⟨t, st, q⟩ := k _ rfl T hT X
  refine ⟨t, ?_, q⟩
  have h1 := X.fastoreOut hexec (by rw [hT]; exact hP q0 _ ha) ((hK.2 t0 _ ht).1 n (fun j => .float (f j))) (j := i) (by show (i < 0 ∨ (arrV _ _ _).slots.size ≤ _); rw [arrV_size]; exact Classical.byContradiction hout) (g := F0 m pc ls (.float x :: .int i :: .ref a :: rest)) rfl (rest := rest) rfl (by rw [hb]; exact hdg) t
  simp only [arrV_size] at h1
  exact h1 st
theorem vx_daldZ {D : va_G} {cl : List vw_C} {ws : va_W} {tys : List (ClassId × FieldType)} {a : Nat} (hexec : p.tables.exec = Jvm.exec) (hb : c.code = cc) (hK : va_K D cl tys s) (hP : va_P D cl ws H) (q0 t0 : Nat) {cA : ClassId} {n : Nat} {f : Nat → UInt64} (ha : ws[q0]? = some (a, .inl (cA, n, .inr (.inr (.inr (.inl f)))))) (ht : tys[t0]? = some (cA, .double)) {i : Int32} (hout : ¬ vp_in i n) (hdg : decode cc pc = .ok (.daload, 1))
    (k : ∀ tx : String, tx = (toString "Index " ++ toString i ++ toString " out of bounds for length " ++ toString n : String) → vx_Note p l e R s m args below meth c H locs cells slots Q (F0 m pc ls rest) "java/lang/ArrayIndexOutOfBoundsException" tx) : W p l e R s m args below meth c H locs cells slots Q (F0 m pc ls (.int i :: .ref a :: rest)) := by
  intro T hT X
  obtain ⟨t, st, q⟩ := k _ rfl T hT X
  refine ⟨t, ?_, q⟩
  have h1 := X.daloadOut hexec (by rw [hT]; exact hP q0 _ ha) ((hK.2 t0 _ ht).1 n (fun j => .double (f j))) (j := i) (by show (i < 0 ∨ (arrV _ _ _).slots.size ≤ _); rw [arrV_size]; exact Classical.byContradiction hout) (g := F0 m pc ls (.int i :: .ref a :: rest)) rfl (rest := rest) rfl (by rw [hb]; exact hdg) t
  simp only [arrV_size] at h1
  exact h1 st
theorem vx_dastZ {D : va_G} {cl : List vw_C} {ws : va_W} {tys : List (ClassId × FieldType)} {a : Nat} (hexec : p.tables.exec = Jvm.exec) (hb : c.code = cc) (hK : va_K D cl tys s) (hP : va_P D cl ws H) (q0 t0 : Nat) {cA : ClassId} {n : Nat} {f : Nat → UInt64} (ha : ws[q0]? = some (a, .inl (cA, n, .inr (.inr (.inr (.inl f)))))) (ht : tys[t0]? = some (cA, .double)) {i : Int32} {x : UInt64} (hout : ¬ vp_in i n) (hdg : decode cc pc = .ok (.dastore, 1))
    (k : ∀ tx : String, tx = (toString "Index " ++ toString i ++ toString " out of bounds for length " ++ toString n : String) → vx_Note p l e R s m args below meth c H locs cells slots Q (F0 m pc ls rest) "java/lang/ArrayIndexOutOfBoundsException" tx) : W p l e R s m args below meth c H locs cells slots Q (F0 m pc ls (.double x :: .int i :: .ref a :: rest)) := by
  intro T hT X
  obtain ⟨t, st, q⟩ := k _ rfl T hT X
  refine ⟨t, ?_, q⟩
  have h1 := X.dastoreOut hexec (by rw [hT]; exact hP q0 _ ha) ((hK.2 t0 _ ht).1 n (fun j => .double (f j))) (j := i) (by show (i < 0 ∨ (arrV _ _ _).slots.size ≤ _); rw [arrV_size]; exact Classical.byContradiction hout) (g := F0 m pc ls (.double x :: .int i :: .ref a :: rest)) rfl (rest := rest) rfl (by rw [hb]; exact hdg) t
  simp only [arrV_size] at h1
  exact h1 st
theorem vx_arraylengthN (hexec : p.tables.exec = Jvm.exec) (hb : c.code = cc) (hdg : decode cc pc = .ok (.arraylength, 1)) (k : vx_NoteN p l e R s m args below meth c H locs cells slots Q (F0 m pc ls rest)) : W p l e R s m args below meth c H locs cells slots Q (F0 m pc ls (.null :: rest)) := by
  intro T hT X
  obtain ⟨t, st, q⟩ := k T hT X
  exact ⟨t, X.arraylengthNull hexec (g := F0 m pc ls (.null :: rest)) rfl (rest := rest) rfl (by rw [hb]; exact hdg) t st, q⟩
theorem vx_ialoadN (hexec : p.tables.exec = Jvm.exec) (hb : c.code = cc) {i : Int32} (hdg : decode cc pc = .ok (.iaload, 1)) (k : vx_NoteN p l e R s m args below meth c H locs cells slots Q (F0 m pc ls rest)) : W p l e R s m args below meth c H locs cells slots Q (F0 m pc ls (.int i :: .null :: rest)) := by
  intro T hT X
  obtain ⟨t, st, q⟩ := k T hT X
  exact ⟨t, X.ialoadNull hexec (g := F0 m pc ls (.int i :: .null :: rest)) rfl (rest := rest) rfl (by rw [hb]; exact hdg) t st, q⟩
theorem vx_laloadN (hexec : p.tables.exec = Jvm.exec) (hb : c.code = cc) {i : Int32} (hdg : decode cc pc = .ok (.laload, 1)) (k : vx_NoteN p l e R s m args below meth c H locs cells slots Q (F0 m pc ls rest)) : W p l e R s m args below meth c H locs cells slots Q (F0 m pc ls (.int i :: .null :: rest)) := by
  intro T hT X
  obtain ⟨t, st, q⟩ := k T hT X
  exact ⟨t, X.laloadNull hexec (g := F0 m pc ls (.int i :: .null :: rest)) rfl (rest := rest) rfl (by rw [hb]; exact hdg) t st, q⟩
theorem vx_faloadN (hexec : p.tables.exec = Jvm.exec) (hb : c.code = cc) {i : Int32} (hdg : decode cc pc = .ok (.faload, 1)) (k : vx_NoteN p l e R s m args below meth c H locs cells slots Q (F0 m pc ls rest)) : W p l e R s m args below meth c H locs cells slots Q (F0 m pc ls (.int i :: .null :: rest)) := by
  intro T hT X
  obtain ⟨t, st, q⟩ := k T hT X
  exact ⟨t, X.faloadNull hexec (g := F0 m pc ls (.int i :: .null :: rest)) rfl (rest := rest) rfl (by rw [hb]; exact hdg) t st, q⟩
theorem vx_daloadN (hexec : p.tables.exec = Jvm.exec) (hb : c.code = cc) {i : Int32} (hdg : decode cc pc = .ok (.daload, 1)) (k : vx_NoteN p l e R s m args below meth c H locs cells slots Q (F0 m pc ls rest)) : W p l e R s m args below meth c H locs cells slots Q (F0 m pc ls (.int i :: .null :: rest)) := by
  intro T hT X
  obtain ⟨t, st, q⟩ := k T hT X
  exact ⟨t, X.daloadNull hexec (g := F0 m pc ls (.int i :: .null :: rest)) rfl (rest := rest) rfl (by rw [hb]; exact hdg) t st, q⟩
theorem vx_aaloadN (hexec : p.tables.exec = Jvm.exec) (hb : c.code = cc) {i : Int32} (hdg : decode cc pc = .ok (.aaload, 1)) (k : vx_NoteN p l e R s m args below meth c H locs cells slots Q (F0 m pc ls rest)) : W p l e R s m args below meth c H locs cells slots Q (F0 m pc ls (.int i :: .null :: rest)) := by
  intro T hT X
  obtain ⟨t, st, q⟩ := k T hT X
  exact ⟨t, X.aaloadNull hexec (g := F0 m pc ls (.int i :: .null :: rest)) rfl (rest := rest) rfl (by rw [hb]; exact hdg) t st, q⟩
theorem vx_baloadN (hexec : p.tables.exec = Jvm.exec) (hb : c.code = cc) {i : Int32} (hdg : decode cc pc = .ok (.baload, 1)) (k : vx_NoteN p l e R s m args below meth c H locs cells slots Q (F0 m pc ls rest)) : W p l e R s m args below meth c H locs cells slots Q (F0 m pc ls (.int i :: .null :: rest)) := by
  intro T hT X
  obtain ⟨t, st, q⟩ := k T hT X
  exact ⟨t, X.baloadNull hexec (g := F0 m pc ls (.int i :: .null :: rest)) rfl (rest := rest) rfl (by rw [hb]; exact hdg) t st, q⟩
theorem vx_caloadN (hexec : p.tables.exec = Jvm.exec) (hb : c.code = cc) {i : Int32} (hdg : decode cc pc = .ok (.caload, 1)) (k : vx_NoteN p l e R s m args below meth c H locs cells slots Q (F0 m pc ls rest)) : W p l e R s m args below meth c H locs cells slots Q (F0 m pc ls (.int i :: .null :: rest)) := by
  intro T hT X
  obtain ⟨t, st, q⟩ := k T hT X
  exact ⟨t, X.caloadNull hexec (g := F0 m pc ls (.int i :: .null :: rest)) rfl (rest := rest) rfl (by rw [hb]; exact hdg) t st, q⟩
theorem vx_saloadN (hexec : p.tables.exec = Jvm.exec) (hb : c.code = cc) {i : Int32} (hdg : decode cc pc = .ok (.saload, 1)) (k : vx_NoteN p l e R s m args below meth c H locs cells slots Q (F0 m pc ls rest)) : W p l e R s m args below meth c H locs cells slots Q (F0 m pc ls (.int i :: .null :: rest)) := by
  intro T hT X
  obtain ⟨t, st, q⟩ := k T hT X
  exact ⟨t, X.saloadNull hexec (g := F0 m pc ls (.int i :: .null :: rest)) rfl (rest := rest) rfl (by rw [hb]; exact hdg) t st, q⟩
theorem vx_iastoreN (hexec : p.tables.exec = Jvm.exec) (hb : c.code = cc) {x : Int32} {i : Int32} (hdg : decode cc pc = .ok (.iastore, 1)) (k : vx_NoteN p l e R s m args below meth c H locs cells slots Q (F0 m pc ls rest)) : W p l e R s m args below meth c H locs cells slots Q (F0 m pc ls (.int x :: .int i :: .null :: rest)) := by
  intro T hT X
  obtain ⟨t, st, q⟩ := k T hT X
  exact ⟨t, X.iastoreNull hexec (g := F0 m pc ls (.int x :: .int i :: .null :: rest)) rfl (rest := rest) rfl (by rw [hb]; exact hdg) t st, q⟩
theorem vx_lastoreN (hexec : p.tables.exec = Jvm.exec) (hb : c.code = cc) {x : Int64} {i : Int32} (hdg : decode cc pc = .ok (.lastore, 1)) (k : vx_NoteN p l e R s m args below meth c H locs cells slots Q (F0 m pc ls rest)) : W p l e R s m args below meth c H locs cells slots Q (F0 m pc ls (.long x :: .int i :: .null :: rest)) := by
  intro T hT X
  obtain ⟨t, st, q⟩ := k T hT X
  exact ⟨t, X.lastoreNull hexec (g := F0 m pc ls (.long x :: .int i :: .null :: rest)) rfl (rest := rest) rfl (by rw [hb]; exact hdg) t st, q⟩
theorem vx_fastoreN (hexec : p.tables.exec = Jvm.exec) (hb : c.code = cc) {x : UInt32} {i : Int32} (hdg : decode cc pc = .ok (.fastore, 1)) (k : vx_NoteN p l e R s m args below meth c H locs cells slots Q (F0 m pc ls rest)) : W p l e R s m args below meth c H locs cells slots Q (F0 m pc ls (.float x :: .int i :: .null :: rest)) := by
  intro T hT X
  obtain ⟨t, st, q⟩ := k T hT X
  exact ⟨t, X.fastoreNull hexec (g := F0 m pc ls (.float x :: .int i :: .null :: rest)) rfl (rest := rest) rfl (by rw [hb]; exact hdg) t st, q⟩
theorem vx_dastoreN (hexec : p.tables.exec = Jvm.exec) (hb : c.code = cc) {x : UInt64} {i : Int32} (hdg : decode cc pc = .ok (.dastore, 1)) (k : vx_NoteN p l e R s m args below meth c H locs cells slots Q (F0 m pc ls rest)) : W p l e R s m args below meth c H locs cells slots Q (F0 m pc ls (.double x :: .int i :: .null :: rest)) := by
  intro T hT X
  obtain ⟨t, st, q⟩ := k T hT X
  exact ⟨t, X.dastoreNull hexec (g := F0 m pc ls (.double x :: .int i :: .null :: rest)) rfl (rest := rest) rfl (by rw [hb]; exact hdg) t st, q⟩
theorem vx_bastoreN (hexec : p.tables.exec = Jvm.exec) (hb : c.code = cc) {x : Int32} {i : Int32} (hdg : decode cc pc = .ok (.bastore, 1)) (k : vx_NoteN p l e R s m args below meth c H locs cells slots Q (F0 m pc ls rest)) : W p l e R s m args below meth c H locs cells slots Q (F0 m pc ls (.int x :: .int i :: .null :: rest)) := by
  intro T hT X
  obtain ⟨t, st, q⟩ := k T hT X
  exact ⟨t, X.bastoreNull hexec (g := F0 m pc ls (.int x :: .int i :: .null :: rest)) rfl (rest := rest) rfl (by rw [hb]; exact hdg) t st, q⟩
theorem vx_castoreN (hexec : p.tables.exec = Jvm.exec) (hb : c.code = cc) {x : Int32} {i : Int32} (hdg : decode cc pc = .ok (.castore, 1)) (k : vx_NoteN p l e R s m args below meth c H locs cells slots Q (F0 m pc ls rest)) : W p l e R s m args below meth c H locs cells slots Q (F0 m pc ls (.int x :: .int i :: .null :: rest)) := by
  intro T hT X
  obtain ⟨t, st, q⟩ := k T hT X
  exact ⟨t, X.castoreNull hexec (g := F0 m pc ls (.int x :: .int i :: .null :: rest)) rfl (rest := rest) rfl (by rw [hb]; exact hdg) t st, q⟩
theorem vx_sastoreN (hexec : p.tables.exec = Jvm.exec) (hb : c.code = cc) {x : Int32} {i : Int32} (hdg : decode cc pc = .ok (.sastore, 1)) (k : vx_NoteN p l e R s m args below meth c H locs cells slots Q (F0 m pc ls rest)) : W p l e R s m args below meth c H locs cells slots Q (F0 m pc ls (.int x :: .int i :: .null :: rest)) := by
  intro T hT X
  obtain ⟨t, st, q⟩ := k T hT X
  exact ⟨t, X.sastoreNull hexec (g := F0 m pc ls (.int x :: .int i :: .null :: rest)) rfl (rest := rest) rfl (by rw [hb]; exact hdg) t st, q⟩
theorem vx_invokeN {own C : String} {index maxL : Nat} {y : MethodName} {bytes : ByteArray} {ret : Option FieldType} (hexec : p.tables.exec = Jvm.exec) (hb : c.code = cc) (hown : s.vm.findClass own = some m.cls) (hlink : (Cond.methodLink own index y).before args s = true) (hinst : (Cond.instanceMethod y).before args s = true) (hcode : (Cond.code y bytes maxL ret).before args s = true) (hsel : (Cond.selects C y y).before args s = true)
    (hx : y.cls ≠ "java/lang/invoke/MethodHandle" ∧ y.cls ≠ "java/lang/invoke/VarHandle") {As : List Value} (hlen : (parseMethodDescriptor y.desc).map (fun d => d.parameters.length) = some As.length) (hdg : decode cc pc = .ok (.invokevirtual index, 3))
    (k : vx_NoteN p l e R s m args below meth c H locs cells slots Q (F0 m pc ls rest)) {st0 : List Value} (hst : st0 = As.reverse ++ .null :: rest) : W p l e R s m args below meth c H locs cells slots Q (F0 m pc ls st0) := by
  intro T hT X
  obtain ⟨r0, r, hn, hrm, hstR, hsigR⟩ := va_Decl.of hinst hcode
  obtain ⟨c2, r2, m2, q1, q2, q3, q4, kP, hkP, hkPi⟩ := Cond.selects_spec hsel
  cases hn.symm.trans q3
  have hl9 : As.length = r.sig.parameters.length := by
    rw [hsigR] at hlen
    exact (Option.some.inj hlen).symm
  obtain ⟨vm', X1, st1⟩ := X.invokevirtualNull hexec hown hlink hn hrm hstR hkP hkPi hx (g := F0 m pc ls st0) rfl (argsL := As) (rest := rest) hl9 hst (by rw [hb]; exact hdg)
  obtain ⟨t, st, q⟩ := k (T.setVm vm') hT X1
  exact ⟨t, st1 t st, q⟩
theorem vx_newarrayZ {atype : ArrayType} (hexec : p.tables.exec = Jvm.exec) (hb : c.code = cc) {n : Int32} (h0 : n < 0) (hdg : decode cc pc = .ok (.newarray atype, 2)) (k : ∀ tx : String, tx = toString n → vx_Note p l e R s m args below meth c H locs cells slots Q (F0 m pc ls rest) "java/lang/NegativeArraySizeException" tx) : W p l e R s m args below meth c H locs cells slots Q (F0 m pc ls (.int n :: rest)) := by
  intro T hT X
  obtain ⟨t, st, q⟩ := k _ rfl T hT X
  exact ⟨t, X.newarrayNegative hexec (g := F0 m pc ls (.int n :: rest)) rfl h0 (rest := rest) rfl (by rw [hb]; exact hdg) t st, q⟩
end
end VXM
/-! ===== END ===== -/
/-! ===== BEGIN an exception as an object: made, kept, thrown later (no traces kept) ===== -/
section VXK
variable {p : Program} {l : Launch} {e : Env} {R : Room} {s : State} {m₀ : MethodId} {args : Array Value} {below : List Frame} {meth : Method} {c : Code} {W : State} {locs : List Loc} {cells slots : Nat}
set_option maxHeartbeats 1000000 in
theorem vx_ctorMadeS (X : Stand p l e R s m₀ args below meth c W locs cells slots) (hexec : p.tables.exec = Jvm.exec) (htr : e.platform.stackTraces = false) {own cls : String} {names : List String} {ic : Nat}
    (hown : s.vm.findClass own = some m₀.cls) (hcls : Bundle.fit cls = true) (hnames : ∀ n ∈ names, Bundle.fit n = true)
    (h : ∀ a ∈ Bundle.ownAtoms own ic cls names, a.before args s = true)
    (hlocs : ∀ x ∈ locs, ∀ cell, s.heap[x.base]? = some cell → cell.vm.isStatics = false)
    {a : Addr} {cX : ClassId} {kX : Class} (hfoundX : s.vm.findClass cls = some cX) (hkX : s.vm.classes[cX]? = some kX) (hcell : W.heap[a]? = some (freshCell cX kX)) (hnew : s.heap.size ≤ a)
    {msg : Value} (hmsg : msg.isRef = true)
    {g : JFrame} (hg : g.method = m₀) (hsize : g.locals.size = c.maxLocals) {rest : List Value} (hstack : g.stack = msg :: .ref a :: .ref a :: rest)
    (hd6 : decode c.code g.pc = .ok (.invokespecial ic, 3))
    (hRframes : names.length + 3 < R.frames) (hRlocals : 2 * g.monitorRoom + ((Value.ref a :: rest).map fun v => v.category).sum + (13 * (names.length + 1) + 42) ≤ R.locals) :
    ∃ (V : State) (ce : Cell) (L : List Loc), Stand p l e R s m₀ args below meth c (V.setCell a ce) (locs ++ L) cells slots ∧ (∀ y ∈ L, y.base = a) ∧ a < V.heap.size ∧ ce.cls = cX ∧ ce.vm = .none ∧
      ∀ target, Steps p.tables e below ((V.setCell a ce).setTop { g with stack := .ref a :: rest, pc := g.pc + 3 }) target → Steps p.tables e below (W.setTop g) target := by
  have howns : e.platform.frameOwnsMonitors = true := by rw [X.admits.platform]
  have hfin : e.platform.finalization = false := by rw [X.admits.platform]
  have hpl : e.platform.magicAccessors = ({} : Platform).magicAccessors := by rw [X.admits.platform]
  have a' : ∀ x, x ∈ Bundle.ownAtoms own ic cls names → x.holds args s none s [] = true := fun x hx => h x hx
  obtain ⟨T, Z0, L, -, Y⟩ := ThrowableC.of_atoms (args := args) howns hfin hpl (fun x hx => h x (by simp [Bundle.ownAtoms, hx]))
  obtain ⟨Z, M, LZ, LM, hnZ⟩ := Init0T.ofS_atoms (args := args) hpl L Y (fun x hx => h x (by simp [Bundle.ownAtoms, hx]))
  obtain ⟨P1, Ps, hlen, L1, hL, hP1m, hlink1, hlink⟩ := Bundle.chainS (args := args) hpl hnZ names cls hcls hnames (fun x hx => h x (by simp [Bundle.ownAtoms, hx]))
  have hfound : s.vm.findClass cls = some P1.m.cls := findClass_of_methodNamed hP1m
  cases Option.some.inj (hfoundX.symm.trans hfound)
  obtain ⟨c1, kX', hc1, hk, hord, -, -, hn6⟩ := Cond.instantiable_spec (a' (.instantiable cls 6) (by simp [Bundle.ownAtoms]))
  cases Option.some.inj (hc1.symm.trans hfound)
  cases Option.some.inj (hkX.symm.trans hk)
  have hsel0 : selectMethod e.platform s.vm P1.m.cls T.fill0 = .method T.fill0 := by
    obtain ⟨c2, r2, m2, q1, q2, q3, q4, -⟩ := Cond.selects_spec (a' (.selects cls Bundle.tFill0 Bundle.tFill0) (by simp [Bundle.ownAtoms]))
    cases Option.some.inj (q1.symm.trans hfound)
    cases Option.some.inj (q2.symm.trans (State.methodFound?_of_named Y.fill0 (by decide)))
    cases Option.some.inj (q3.symm.trans Y.fill0)
    rw [Launch.admits_selectMethod X.admits]; exact q4
  have hselF : selectMethod e.platform s.vm P1.m.cls T.fill = .method T.fill := by
    obtain ⟨c2, r2, m2, q1, q2, q3, q4, -⟩ := Cond.selects_spec (a' (.selects cls Bundle.tFill Bundle.tFill) (by simp [Bundle.ownAtoms]))
    cases Option.some.inj (q1.symm.trans hfound)
    cases Option.some.inj (q2.symm.trans (State.methodFound?_of_named Y.fill (by decide)))
    cases Option.some.inj (q3.symm.trans Y.fill)
    rw [Launch.admits_selectMethod X.admits]; exact q4
  obtain ⟨cellS0, hcS0, hiss⟩ := Y.statics
  obtain ⟨u0, hu0⟩ := Cond.staticRefV Y.unassigned L.unassignedStatic L.statics hcS0 hiss (a' (.isRef (.static Bundle.tN "UNASSIGNED_STACK" Bundle.steD)) (by simp [Bundle.ownAtoms]))
  obtain ⟨sen, hsen⟩ := Cond.staticRefV Y.sentinel L.sentinelStatic L.statics hcS0 hiss (a' (.isRef (.static Bundle.tN "SUPPRESSED_SENTINEL" Bundle.listD)) (by simp [Bundle.ownAtoms]))
  obtain ⟨ci198, i198, fB, hk198, hg198, ha198, hsB, -, hnB, htB, hffB⟩ := Cond.ownField (t := .object "java/lang/Object") Y.found L.cls (by decide +kernel) (a' (.fieldLink Bundle.tN 198 Bundle.tN "backtrace" "Ljava/lang/Object;") (by simp [Bundle.ownAtoms])) (a' (.lays Bundle.tN Bundle.tN "backtrace" "Ljava/lang/Object;") (by simp [Bundle.ownAtoms])) e.platform hpl
  obtain ⟨cellS, hcS', heS, -, hkeep⟩ := X.same.2.2.2.2.2 T.aS cellS0 hcS0
  have hcellS : W.heap[T.aS]? = some cellS := hcS'
  have hout' : ∀ i, (⟨T.aS, i⟩ : Loc) ∉ locs := fun i hmem => by
    have := hlocs _ hmem cellS0 hcS0
    rw [hiss] at this; cases this
  have hknownS : cellS.vm ≠ .unknown := by
    rw [heS]; intro hu
    rw [show cellS0.vm = .unknown from hu] at hiss
    cases hiss
  have hneS : T.aS ≠ a := Nat.ne_of_lt (Nat.lt_of_lt_of_le (Array.getElem?_eq_some_iff.mp hcS0).1 hnew)
  obtain ⟨iM, hffM⟩ := Y.msg
  obtain ⟨tyC, dC, hdC, hdnC⟩ := Cond.laysAt hfound hk Y.cause (a' (.lays cls Bundle.tN "cause" "Ljava/lang/Throwable;") (by simp [Bundle.ownAtoms]))
  obtain ⟨tyS, dS, hdS, hdnS⟩ := Cond.laysAt hfound hk Y.stack (a' (.lays cls Bundle.tN "stackTrace" Bundle.steD) (by simp [Bundle.ownAtoms]))
  obtain ⟨tyP, dP, hdP, hdnP⟩ := Cond.laysAt hfound hk Y.supp (a' (.lays cls Bundle.tN "suppressedExceptions" Bundle.listD) (by simp [Bundle.ownAtoms]))
  obtain ⟨tyM, dM, hdM, hdnM⟩ := Cond.laysAt hfound hk hffM (a' (.lays cls Bundle.tN "detailMessage" "Ljava/lang/String;") (by simp [Bundle.ownAtoms]))
  obtain ⟨tyB, dB, hdB, hdnB⟩ := Cond.laysAt hfound hk hffB (a' (.lays cls Bundle.tN "backtrace" "Ljava/lang/Object;") (by simp [Bundle.ownAtoms]))
  have bC := Cond.laysApart hdB hdC hdnB hdnC (by rw [hnB, Y.causeName]; decide)
  have bS := Cond.laysApart hdB hdS hdnB hdnS (by rw [hnB, Y.stackName]; decide)
  have bP := Cond.laysApart hdB hdP hdnB hdnP (by rw [hnB, Y.suppName]; decide)
  have hskip : SkipFacts T e.platform s (fun u => u) u0 ((preparedCellV T.toThrowableT (freshCell P1.m.cls kX) a u0 sen).withEntry W.cur) :=
    ⟨{ ci198 := ci198, i198 := i198, fBack := fB }, ⟨hk198, hg198, ha198, hsB⟩, by
      have := fresh_default (c := P1.m.cls) tyB
      rw [htB] at this
      simpa [preparedCellV, Cell.setSlot, Cell.withEntry, Array.getElem?_setIfInBounds, bC, bS, bP, bC.symm, bS.symm, bP.symm, defaultValue] using this, fun _ _ => rfl⟩
  obtain ⟨tm, methC, cdC, kC, vm₁, hnC, -, -, -, -, -, -, -, hW₁, st1⟩ := Steps.initColdS (tb := p.tables) (e := e) (below := below) (s := s) (U := W) X.here hexec X.warmed hpl hown (t := Bundle.initS cls) rfl rfl (Bundle.fit_spec hcls).2
    (a' (.methodLink own ic (Bundle.initS cls)) (by simp [Bundle.ownAtoms])) (h (.instanceMethod (Bundle.initS cls)) (by cases names <;> simp [Bundle.ownAtoms, Bundle.chainSAtoms, Bundle.passSAtoms])) (bytes := Bundle.six) (maxL := 2) (h (.code (Bundle.initS cls) Bundle.six 2 none) (by cases names <;> simp [Bundle.ownAtoms, Bundle.chainSAtoms, Bundle.passSAtoms]))
    (f := g) hg (a := a) (msg := msg) (rest := .ref a :: rest) hstack hd6
  cases Option.some.inj (hnC.symm.trans hP1m)
  have X₁ := X.noted hW₁
  obtain ⟨vm₂, X₂, st2⟩ := X₁.ctorMessageOffV hexec (g := { g with stack := .ref a :: rest }) hg hsize T L Z LZ M LM (P1 :: Ps)
    (fun P hP => by rcases List.mem_cons.mp hP with rfl | hP; exact L1; exact hL P hP) ⟨hlink1, hlink⟩ (u0 := u0) (sen := sen) (self := a) hmsg (cell := freshCell P1.m.cls kX) (cellS := cellS)
    hcell (fun _ => by simp) (by simp) rfl rfl hsel0 hselF hcellS hneS hknownS (by rw [hkeep _ (hout' _)]; exact hu0) (by rw [hkeep _ (hout' _)]; exact hsen)
    (Takes.of_laid hk hord tyC (by rw [Y.causeType]; rfl)) (Takes.of_laid hk hord tyS (by rw [Y.stackType]; exact fits_refV_array _ u0)) (Takes.of_laid hk hord tyP (by rw [Y.suppType]; exact fits_refV_object _ sen))
    (Takes.of_laid hk hord tyM (by rw [Y.msgType]; exact fits_refV_object _ ⟨msg, hmsg⟩)) Y.objLocals hskip htr [] hd6
    (by simp only [List.length_cons, hlen]; omega) (by simp only [List.length_cons, hlen]; exact hRlocals)
  have hlt : a < ((W.setVm vm₁).setVm vm₂).heap.size := (Array.getElem?_eq_some_iff.mp hcell).1
  refine ⟨(W.setVm vm₁).setVm vm₂, _, _, X₂, fun y hy => ?_, hlt, rfl, rfl, fun target hwalk => st1 _ (fun acts => ?_)⟩
  · simp only [List.mem_cons, List.not_mem_nil, or_false] at hy
    rcases hy with rfl | rfl | rfl | rfl | rfl <;> rfl
  · rw [doInvoke_state]
    exact st2 _ hwalk
set_option maxHeartbeats 1000000 in
theorem vx_ctorMade0 (X : Stand p l e R s m₀ args below meth c W locs cells slots) (hexec : p.tables.exec = Jvm.exec) (htr : e.platform.stackTraces = false) {own cls : String} {names : List String} {ic : Nat}
    (hown : s.vm.findClass own = some m₀.cls) (hcls : Bundle.fit cls = true) (hnames : ∀ n ∈ names, Bundle.fit n = true)
    (h : ∀ a ∈ Bundle.ownAtoms0 own ic cls names, a.before args s = true)
    (hlocs : ∀ x ∈ locs, ∀ cell, s.heap[x.base]? = some cell → cell.vm.isStatics = false)
    {a : Addr} {cX : ClassId} {kX : Class} (hfoundX : s.vm.findClass cls = some cX) (hkX : s.vm.classes[cX]? = some kX) (hcell : W.heap[a]? = some (freshCell cX kX)) (hnew : s.heap.size ≤ a)
    {g : JFrame} (hg : g.method = m₀) (hsize : g.locals.size = c.maxLocals) {rest : List Value} (hstack : g.stack = .ref a :: .ref a :: rest)
    (hd6 : decode c.code g.pc = .ok (.invokespecial ic, 3))
    (hRframes : names.length + 3 < R.frames) (hRlocals : 2 * g.monitorRoom + ((Value.ref a :: rest).map fun v => v.category).sum + (13 * (names.length + 1) + 41) ≤ R.locals) :
    ∃ (V : State) (ce : Cell) (L : List Loc), Stand p l e R s m₀ args below meth c (V.setCell a ce) (locs ++ L) cells slots ∧ (∀ y ∈ L, y.base = a) ∧ a < V.heap.size ∧ ce.cls = cX ∧ ce.vm = .none ∧
      ∀ target, Steps p.tables e below ((V.setCell a ce).setTop { g with stack := .ref a :: rest, pc := g.pc + 3 }) target → Steps p.tables e below (W.setTop g) target := by
  have howns : e.platform.frameOwnsMonitors = true := by rw [X.admits.platform]
  have hfin : e.platform.finalization = false := by rw [X.admits.platform]
  have hpl : e.platform.magicAccessors = ({} : Platform).magicAccessors := by rw [X.admits.platform]
  have a' : ∀ x, x ∈ Bundle.ownAtoms0 own ic cls names → x.holds args s none s [] = true := fun x hx => h x hx
  obtain ⟨T, Z, L, LZ, Y⟩ := ThrowableC.of_atoms (args := args) howns hfin hpl (fun x hx => h x (by simp [Bundle.ownAtoms0, hx]))
  obtain ⟨P1, Ps, hlen, L1, hL, hP1m, hlink1, hlink⟩ := Bundle.chain0 (args := args) hpl Y.init0 names cls hcls hnames (fun x hx => h x (by simp [Bundle.ownAtoms0, hx]))
  have hfound : s.vm.findClass cls = some P1.m.cls := findClass_of_methodNamed hP1m
  cases Option.some.inj (hfoundX.symm.trans hfound)
  obtain ⟨c1, kX', hc1, hk, hord, -, -, hn6⟩ := Cond.instantiable_spec (a' (.instantiable cls 6) (by simp [Bundle.ownAtoms0]))
  cases Option.some.inj (hc1.symm.trans hfound)
  cases Option.some.inj (hkX.symm.trans hk)
  have hsel0 : selectMethod e.platform s.vm P1.m.cls T.fill0 = .method T.fill0 := by
    obtain ⟨c2, r2, m2, q1, q2, q3, q4, -⟩ := Cond.selects_spec (a' (.selects cls Bundle.tFill0 Bundle.tFill0) (by simp [Bundle.ownAtoms0]))
    cases Option.some.inj (q1.symm.trans hfound)
    cases Option.some.inj (q2.symm.trans (State.methodFound?_of_named Y.fill0 (by decide)))
    cases Option.some.inj (q3.symm.trans Y.fill0)
    rw [Launch.admits_selectMethod X.admits]; exact q4
  have hselF : selectMethod e.platform s.vm P1.m.cls T.fill = .method T.fill := by
    obtain ⟨c2, r2, m2, q1, q2, q3, q4, -⟩ := Cond.selects_spec (a' (.selects cls Bundle.tFill Bundle.tFill) (by simp [Bundle.ownAtoms0]))
    cases Option.some.inj (q1.symm.trans hfound)
    cases Option.some.inj (q2.symm.trans (State.methodFound?_of_named Y.fill (by decide)))
    cases Option.some.inj (q3.symm.trans Y.fill)
    rw [Launch.admits_selectMethod X.admits]; exact q4
  obtain ⟨cellS0, hcS0, hiss⟩ := Y.statics
  obtain ⟨u0, hu0⟩ := Cond.staticRefV Y.unassigned L.unassignedStatic L.statics hcS0 hiss (a' (.isRef (.static Bundle.tN "UNASSIGNED_STACK" Bundle.steD)) (by simp [Bundle.ownAtoms0]))
  obtain ⟨sen, hsen⟩ := Cond.staticRefV Y.sentinel L.sentinelStatic L.statics hcS0 hiss (a' (.isRef (.static Bundle.tN "SUPPRESSED_SENTINEL" Bundle.listD)) (by simp [Bundle.ownAtoms0]))
  obtain ⟨ci198, i198, fB, hk198, hg198, ha198, hsB, -, hnB, htB, hffB⟩ := Cond.ownField (t := .object "java/lang/Object") Y.found L.cls (by decide +kernel) (a' (.fieldLink Bundle.tN 198 Bundle.tN "backtrace" "Ljava/lang/Object;") (by simp [Bundle.ownAtoms0])) (a' (.lays Bundle.tN Bundle.tN "backtrace" "Ljava/lang/Object;") (by simp [Bundle.ownAtoms0])) e.platform hpl
  obtain ⟨cellS, hcS', heS, -, hkeep⟩ := X.same.2.2.2.2.2 T.aS cellS0 hcS0
  have hcellS : W.heap[T.aS]? = some cellS := hcS'
  have hout' : ∀ i, (⟨T.aS, i⟩ : Loc) ∉ locs := fun i hmem => by
    have := hlocs _ hmem cellS0 hcS0
    rw [hiss] at this; cases this
  have hknownS : cellS.vm ≠ .unknown := by
    rw [heS]; intro hu
    rw [show cellS0.vm = .unknown from hu] at hiss
    cases hiss
  have hneS : T.aS ≠ a := Nat.ne_of_lt (Nat.lt_of_lt_of_le (Array.getElem?_eq_some_iff.mp hcS0).1 hnew)
  obtain ⟨iM, hffM⟩ := Y.msg
  obtain ⟨tyC, dC, hdC, hdnC⟩ := Cond.laysAt hfound hk Y.cause (a' (.lays cls Bundle.tN "cause" "Ljava/lang/Throwable;") (by simp [Bundle.ownAtoms0]))
  obtain ⟨tyS, dS, hdS, hdnS⟩ := Cond.laysAt hfound hk Y.stack (a' (.lays cls Bundle.tN "stackTrace" Bundle.steD) (by simp [Bundle.ownAtoms0]))
  obtain ⟨tyP, dP, hdP, hdnP⟩ := Cond.laysAt hfound hk Y.supp (a' (.lays cls Bundle.tN "suppressedExceptions" Bundle.listD) (by simp [Bundle.ownAtoms0]))
  obtain ⟨tyM, dM, hdM, hdnM⟩ := Cond.laysAt hfound hk hffM (a' (.lays cls Bundle.tN "detailMessage" "Ljava/lang/String;") (by simp [Bundle.ownAtoms0]))
  obtain ⟨tyB, dB, hdB, hdnB⟩ := Cond.laysAt hfound hk hffB (a' (.lays cls Bundle.tN "backtrace" "Ljava/lang/Object;") (by simp [Bundle.ownAtoms0]))
  have bC := Cond.laysApart hdB hdC hdnB hdnC (by rw [hnB, Y.causeName]; decide)
  have bS := Cond.laysApart hdB hdS hdnB hdnS (by rw [hnB, Y.stackName]; decide)
  have bP := Cond.laysApart hdB hdP hdnB hdnP (by rw [hnB, Y.suppName]; decide)
  have hskip : SkipFacts T e.platform s (fun u => u) u0 ((preparedCellV T.toThrowableT (freshCell P1.m.cls kX) a u0 sen).withEntry W.cur) :=
    ⟨{ ci198 := ci198, i198 := i198, fBack := fB }, ⟨hk198, hg198, ha198, hsB⟩, by
      have := fresh_default (c := P1.m.cls) tyB
      rw [htB] at this
      simpa [preparedCellV, Cell.setSlot, Cell.withEntry, Array.getElem?_setIfInBounds, bC, bS, bP, bC.symm, bS.symm, bP.symm, defaultValue] using this, fun _ _ => rfl⟩
  obtain ⟨tm, methC, cdC, kC, vm₁, hnC, -, -, -, -, -, -, -, hW₁, st1⟩ := Steps.initCold (tb := p.tables) (e := e) (below := below) (s := s) (U := W) X.here hexec X.warmed hpl hown (t := Bundle.init0 cls) rfl rfl (Bundle.fit_spec hcls).2
    (a' (.methodLink own ic (Bundle.init0 cls)) (by simp [Bundle.ownAtoms0])) (h (.instanceMethod (Bundle.init0 cls)) (by cases names <;> simp [Bundle.ownAtoms0, Bundle.chain0Atoms, Bundle.passAtoms])) (bytes := Bundle.five) (maxL := 1) (h (.code (Bundle.init0 cls) Bundle.five 1 none) (by cases names <;> simp [Bundle.ownAtoms0, Bundle.chain0Atoms, Bundle.passAtoms]))
    (f := g) hg (a := a) (rest := .ref a :: rest) hstack hd6
  cases Option.some.inj (hnC.symm.trans hP1m)
  have X₁ := X.noted hW₁
  obtain ⟨vm₂, X₂, st2⟩ := X₁.ctorPlainOffV hexec (g := { g with stack := .ref a :: rest }) hg hsize T L Z LZ (P1 :: Ps)
    (fun P hP => by rcases List.mem_cons.mp hP with rfl | hP; exact L1; exact hL P hP) ⟨hlink1, hlink⟩ (u0 := u0) (sen := sen) (self := a) (cell := freshCell P1.m.cls kX) (cellS := cellS)
    hcell (fun _ => by simp) (by simp) rfl rfl hsel0 hselF hcellS hneS hknownS (by rw [hkeep _ (hout' _)]; exact hu0) (by rw [hkeep _ (hout' _)]; exact hsen)
    (Takes.of_laid hk hord tyC (by rw [Y.causeType]; rfl)) (Takes.of_laid hk hord tyS (by rw [Y.stackType]; exact fits_refV_array _ u0)) (Takes.of_laid hk hord tyP (by rw [Y.suppType]; exact fits_refV_object _ sen)) Y.objLocals hskip htr [] hd6
    (by simp only [List.length_cons, hlen]; omega) (by simp only [List.length_cons, hlen]; exact hRlocals)
  have hlt : a < ((W.setVm vm₁).setVm vm₂).heap.size := (Array.getElem?_eq_some_iff.mp hcell).1
  refine ⟨(W.setVm vm₁).setVm vm₂, _, _, X₂, fun y hy => ?_, hlt, rfl, rfl, fun target hwalk => st1 _ (fun acts => ?_)⟩
  · simp only [List.mem_cons, List.not_mem_nil, or_false] at hy
    rcases hy with rfl | rfl | rfl | rfl <;> rfl
  · rw [doInvoke_state]
    exact st2 _ hwalk
end VXK
section VXK2
variable {p : Program} {l : Launch} {e : Env} {R : Room} {s : State} {m : MethodId} {args : Array Value} {below : List Frame} {meth : Method} {c : Code} {H : Heap} {locs : List Loc} {cells slots : Nat} {Q : State → Prop}
variable {ls : Array Slot} {rest : List Value} {D : va_G} {cl : List vw_C} {tys : List (ClassId × FieldType)} {ws : va_W}
/-- 'new E("text")' that isn't thrown at once: the object goes on the stack -/
theorem vx_makeS {cc : ByteArray} {pc : Nat} (hexec : p.tables.exec = Jvm.exec) (hb : c.code = cc) (hl : l.stackTraces = false) {own cls text : String} {names : List String} {ik is ic sa ci : Nat} {A : Nat → Prop} {T0 : u_T}
    (hown : s.vm.findClass own = some m.cls) (hcls : Bundle.fit cls = true) (hnames : ∀ n ∈ names, Bundle.fit n = true)
    (hk : (Cond.classLink own ik cls).before args s = true) (hini : (Cond.initialized cls).before args s = true) (hstr : vk_R own is text sa s) (hat : ∀ w ∈ vx_atS own ic cls names, w.before args s = true)
    (hgood : ∀ w ∈ Cond.classLink own ik cls :: Cond.initialized cls :: vx_atS own ic cls names, vx_ot w = true)
    (hU : vx_Zq Bundle.tN "UNASSIGNED_STACK" Bundle.steD A s s.heap) (hN : vx_Zq Bundle.tN "SUPPRESSED_SENTINEL" Bundle.listD A s s.heap) (hS : va_S A s.heap H locs) (hsize : ls.size = c.maxLocals)
    (d0 : decode cc pc = .ok (.new ik, 3)) (d3 : decode cc (pc + 3) = .ok (.dup, 1)) (d4 : decode cc (pc + 4) = .ok (.ldc is, 2)) (d6 : decode cc (pc + 6) = .ok (.invokespecial ic, 3))
    (hK : va_K D cl tys s) (hP : va_P D cl ws H) (hD : va_D A ws) (hA : ∀ q, s.heap.size ≤ q → A q) (hc : cl[ci]? = some (cls, T0, 0))
    (hRframes : names.length + 3 < R.frames) (hRlocals : (rest.map fun v => v.category).sum + (13 * (names.length + 1) + 43) ≤ R.locals) (hRcells : cells + 1 ≤ R.cells) (hRslots : slots + 6 ≤ R.slots)
    (kk : ∀ (q : Nat) (H1 : Heap), va_P D cl (ws ++ [(q, .inr (ci, []))]) H1 → va_D A (ws ++ [(q, .inr (ci, []))]) → va_S A s.heap H1 locs → W p l e R s m args below meth c H1 locs (cells + 1) (slots + 6) Q (F0 m (pc + 9) ls (.ref q :: rest))) :
    W p l e R s m args below meth c H locs cells slots Q (F0 m pc ls rest) := by
  intro T hT X
  subst hT
  have htr : e.platform.stackTraces = false := (show e.platform.stackTraces = l.stackTraces by rw [X.admits.platform]).trans hl
  have Y := vx_rebase X (R' := { frames := R.frames, locals := R.locals, cells := 1, slots := 6 }) (Nat.le_refl _) (Nat.le_refl _) hRcells hRslots
  obtain ⟨s', hA'⟩ : ∃ z, z = (T.setVm s.vm).setFrames (.invoking m args :: below) := ⟨_, rfl⟩
  rw [← hA'] at Y
  have hvm : s'.vm = s.vm := by rw [hA']; rfl
  have hhp : s'.heap = T.heap := by rw [hA']; rfl
  have hW0 : s.WarmedH s'.vm := by rw [hvm]; exact State.WarmedH.refl s
  have hat' : ∀ w ∈ vx_atS own ic cls names, w.before args s' = true := fun w hw => vx_ot_at hW0 hvm.symm (hgood w (List.mem_cons_of_mem _ (List.mem_cons_of_mem _ hw))) (hat w hw)
  have hk' : (Cond.classLink own ik cls).before args s' = true := vx_ot_at hW0 hvm.symm (hgood _ List.mem_cons_self) hk
  have hini' : (Cond.initialized cls).before args s' = true := vx_ot_at hW0 hvm.symm (hgood _ (List.mem_cons_of_mem _ List.mem_cons_self)) hini
  have hU' : vx_Zq Bundle.tN "UNASSIGNED_STACK" Bundle.steD A s' s'.heap := by rw [hhp]; exact vx_Zq.moved hW0.alike (hU.kept hS.2.1)
  have hN' : vx_Zq Bundle.tN "SUPPRESSED_SENTINEL" Bundle.listD A s' s'.heap := by rw [hhp]; exact vx_Zq.moved hW0.alike (hN.kept hS.2.1)
  have h : ∀ w ∈ Bundle.ownAtoms own ic cls names, w.before args s' = true := vx_own hat' (vx_isRefq hU'.1) (vx_isRefq hN'.1) hU'.2.word hN'.2.word
  have hown' : s'.vm.findClass own = some m.cls := by rw [hvm]; exact hown
  have hins : (Cond.instantiable cls 6).before args s' = true := h _ (by simp [Bundle.ownAtoms])
  obtain ⟨vm₁, cX, kX, hfX, hkX, -, -, X₁, st1⟩ := Y.newCold hexec (own := own) (C := cls) (index := ik) (n := 6) hown' hk' hins hini'
    (g := F0 m pc ls rest) rfl (by rw [hb]; exact d0) (Nat.le_refl _) (Nat.le_refl _)
  generalize hT1 : (T.setVm vm₁).pushCell { cls := cX, slots := kX.instanceTypes.map defaultValue, vm := .none } = T1 at X₁ st1
  have hcat : (Value.ref T.heap.size).category = 1 := rfl
  have hcellA : T1.heap[T.heap.size]? = some (freshCell cX kX) := by rw [← hT1]; exact State.heap_pushCell_size _ _
  have d3' : decode c.code (pc + 3) = .ok (.dup, 1) := by rw [hb]; exact d3
  have d4' : decode c.code (pc + 4) = .ok (.ldc is, 2) := by rw [hb]; exact d4
  have hstr' : vk_R own is text sa s' := vk_R.warm hW0 hstr
  obtain ⟨V, ce, L, Z, hL, hlt, hcl9, hvm9, st⟩ := vx_ctorMadeS X₁ hexec htr (own := own) (cls := cls) (names := names) (ic := ic) hown' hcls hnames h (fun x hx => nomatch hx) hfX hkX hcellA (by rw [hhp]; exact Nat.le_refl _) (msg := .ref sa) rfl
    (g := { method := m, pc := pc + 6, locals := ls, stack := .ref sa :: .ref T.heap.size :: .ref T.heap.size :: rest, locked := none }) rfl hsize (rest := rest) rfl
    (by rw [hb]; exact d6) hRframes (by simp only [List.map_cons, List.sum_cons, hcat]; omega)
  have Z0 := Stand.forget (locs := []) Z (fun y hy => by rw [hL y hy, hhp]; exact Nat.le_refl _)
  obtain ⟨f1, f2⟩ := vx_frame Z0.same
  rw [hhp] at f1 f2
  have hcid : ce.cls = D.1 ci := by
    rw [hcl9]
    have h1 := (hK.1 ci _ hc).2.1
    rw [hvm] at hfX
    exact Option.some.inj (hfX.symm.trans h1)
  have hh : (V.setCell T.heap.size ce).heap[T.heap.size]? = some ce := heapAt_setCell_self (s := V) ce hlt
  subst hA'
  have X5 := vx_back9 X Y Z0
  have X6 : Stand p l e R s m args below meth c (V.setCell T.heap.size ce) locs (cells + 1) (slots + 6) := { X5 with same := X5.same.mono (by omega) (by omega) }
  have hk9 : ∀ (k : Nat) (x : Nat × va_E), ws[k]? = some x → (V.setCell T.heap.size ce).heap[x.1]? = T.heap[x.1]? := fun k x hx => f2 x.1 ((hP k x hx).lt) (fun z hz => nomatch hz)
  obtain ⟨t, a1, b1⟩ := kk T.heap.size (V.setCell T.heap.size ce).heap ((hP.kept hk9).app (fun k x hx => by
      have hz : k < 1 := (List.getElem?_eq_some_iff.mp hx).1
      rw [show k = 0 by omega] at hx
      cases hx
      exact ⟨_, hc, ce, hh, hcid, hvm9, fun k hk => absurd hk (Nat.not_lt_zero k)⟩)) (hD.push hP rfl (hA _ hS.1)) ⟨Nat.le_trans hS.1 f1, fun q h1 h2 => (f2 q (Nat.lt_of_lt_of_le h1 hS.1) (fun z hz => nomatch hz)).trans (hS.2.1 q h1 h2), hS.2.2⟩ _ rfl X6
  refine ⟨t, st1 _ ?_, b1⟩
  show Steps p.tables e below (T1.setTop { method := m, pc := pc + 3, locals := ls, stack := .ref T.heap.size :: rest, locked := none }) _
  jvm_step X₁.here [X₁.here.top, hexec, d3', Value.category]
  exact X₁.ldcString hexec (own := own) (text := text) (index := is) (a := sa) hown' hstr'.1 hstr'.2
    (g := { method := m, pc := pc + 4, locals := ls, stack := .ref T.heap.size :: .ref T.heap.size :: rest, locked := none }) rfl d4' _ (st _ a1)
/-- 'new E()' that isn't thrown at once: the object goes on the stack -/
theorem vx_make0 {cc : ByteArray} {pc : Nat} (hexec : p.tables.exec = Jvm.exec) (hb : c.code = cc) (hl : l.stackTraces = false) {own cls : String} {names : List String} {ik ic ci : Nat} {A : Nat → Prop} {T0 : u_T}
    (hown : s.vm.findClass own = some m.cls) (hcls : Bundle.fit cls = true) (hnames : ∀ n ∈ names, Bundle.fit n = true)
    (hk : (Cond.classLink own ik cls).before args s = true) (hini : (Cond.initialized cls).before args s = true) (hat : ∀ w ∈ vx_at0 own ic cls names, w.before args s = true)
    (hgood : ∀ w ∈ Cond.classLink own ik cls :: Cond.initialized cls :: vx_at0 own ic cls names, vx_ot w = true)
    (hU : vx_Zq Bundle.tN "UNASSIGNED_STACK" Bundle.steD A s s.heap) (hN : vx_Zq Bundle.tN "SUPPRESSED_SENTINEL" Bundle.listD A s s.heap) (hS : va_S A s.heap H locs) (hsize : ls.size = c.maxLocals)
    (d0 : decode cc pc = .ok (.new ik, 3)) (d3 : decode cc (pc + 3) = .ok (.dup, 1)) (d4 : decode cc (pc + 4) = .ok (.invokespecial ic, 3))
    (hK : va_K D cl tys s) (hP : va_P D cl ws H) (hD : va_D A ws) (hA : ∀ q, s.heap.size ≤ q → A q) (hc : cl[ci]? = some (cls, T0, 0))
    (hRframes : names.length + 3 < R.frames) (hRlocals : (rest.map fun v => v.category).sum + (13 * (names.length + 1) + 42) ≤ R.locals) (hRcells : cells + 1 ≤ R.cells) (hRslots : slots + 6 ≤ R.slots)
    (kk : ∀ (q : Nat) (H1 : Heap), va_P D cl (ws ++ [(q, .inr (ci, []))]) H1 → va_D A (ws ++ [(q, .inr (ci, []))]) → va_S A s.heap H1 locs → W p l e R s m args below meth c H1 locs (cells + 1) (slots + 6) Q (F0 m (pc + 7) ls (.ref q :: rest))) :
    W p l e R s m args below meth c H locs cells slots Q (F0 m pc ls rest) := by
  intro T hT X
  subst hT
  have htr : e.platform.stackTraces = false := (show e.platform.stackTraces = l.stackTraces by rw [X.admits.platform]).trans hl
  have Y := vx_rebase X (R' := { frames := R.frames, locals := R.locals, cells := 1, slots := 6 }) (Nat.le_refl _) (Nat.le_refl _) hRcells hRslots
  obtain ⟨s', hA'⟩ : ∃ z, z = (T.setVm s.vm).setFrames (.invoking m args :: below) := ⟨_, rfl⟩
  rw [← hA'] at Y
  have hvm : s'.vm = s.vm := by rw [hA']; rfl
  have hhp : s'.heap = T.heap := by rw [hA']; rfl
  have hW0 : s.WarmedH s'.vm := by rw [hvm]; exact State.WarmedH.refl s
  have hat' : ∀ w ∈ vx_at0 own ic cls names, w.before args s' = true := fun w hw => vx_ot_at hW0 hvm.symm (hgood w (List.mem_cons_of_mem _ (List.mem_cons_of_mem _ hw))) (hat w hw)
  have hk' : (Cond.classLink own ik cls).before args s' = true := vx_ot_at hW0 hvm.symm (hgood _ List.mem_cons_self) hk
  have hini' : (Cond.initialized cls).before args s' = true := vx_ot_at hW0 hvm.symm (hgood _ (List.mem_cons_of_mem _ List.mem_cons_self)) hini
  have hU' : vx_Zq Bundle.tN "UNASSIGNED_STACK" Bundle.steD A s' s'.heap := by rw [hhp]; exact vx_Zq.moved hW0.alike (hU.kept hS.2.1)
  have hN' : vx_Zq Bundle.tN "SUPPRESSED_SENTINEL" Bundle.listD A s' s'.heap := by rw [hhp]; exact vx_Zq.moved hW0.alike (hN.kept hS.2.1)
  have h : ∀ w ∈ Bundle.ownAtoms0 own ic cls names, w.before args s' = true := vx_own hat' (vx_isRefq hU'.1) (vx_isRefq hN'.1) hU'.2.word hN'.2.word
  have hown' : s'.vm.findClass own = some m.cls := by rw [hvm]; exact hown
  have hins : (Cond.instantiable cls 6).before args s' = true := h _ (by simp [Bundle.ownAtoms0])
  obtain ⟨vm₁, cX, kX, hfX, hkX, -, -, X₁, st1⟩ := Y.newCold hexec (own := own) (C := cls) (index := ik) (n := 6) hown' hk' hins hini'
    (g := F0 m pc ls rest) rfl (by rw [hb]; exact d0) (Nat.le_refl _) (Nat.le_refl _)
  generalize hT1 : (T.setVm vm₁).pushCell { cls := cX, slots := kX.instanceTypes.map defaultValue, vm := .none } = T1 at X₁ st1
  have hcat : (Value.ref T.heap.size).category = 1 := rfl
  have hcellA : T1.heap[T.heap.size]? = some (freshCell cX kX) := by rw [← hT1]; exact State.heap_pushCell_size _ _
  have d3' : decode c.code (pc + 3) = .ok (.dup, 1) := by rw [hb]; exact d3
  obtain ⟨V, ce, L, Z, hL, hlt, hcl9, hvm9, st⟩ := vx_ctorMade0 X₁ hexec htr (own := own) (cls := cls) (names := names) (ic := ic) hown' hcls hnames h (fun x hx => nomatch hx) hfX hkX hcellA (by rw [hhp]; exact Nat.le_refl _)
    (g := { method := m, pc := pc + 4, locals := ls, stack := .ref T.heap.size :: .ref T.heap.size :: rest, locked := none }) rfl hsize (rest := rest) rfl
    (by rw [hb]; exact d4) hRframes (by simp only [List.map_cons, List.sum_cons, hcat]; omega)
  have Z0 := Stand.forget (locs := []) Z (fun y hy => by rw [hL y hy, hhp]; exact Nat.le_refl _)
  obtain ⟨f1, f2⟩ := vx_frame Z0.same
  rw [hhp] at f1 f2
  have hcid : ce.cls = D.1 ci := by
    rw [hcl9]
    have h1 := (hK.1 ci _ hc).2.1
    rw [hvm] at hfX
    exact Option.some.inj (hfX.symm.trans h1)
  have hh : (V.setCell T.heap.size ce).heap[T.heap.size]? = some ce := heapAt_setCell_self (s := V) ce hlt
  subst hA'
  have X5 := vx_back9 X Y Z0
  have X6 : Stand p l e R s m args below meth c (V.setCell T.heap.size ce) locs (cells + 1) (slots + 6) := { X5 with same := X5.same.mono (by omega) (by omega) }
  have hk9 : ∀ (k : Nat) (x : Nat × va_E), ws[k]? = some x → (V.setCell T.heap.size ce).heap[x.1]? = T.heap[x.1]? := fun k x hx => f2 x.1 ((hP k x hx).lt) (fun z hz => nomatch hz)
  obtain ⟨t, a1, b1⟩ := kk T.heap.size (V.setCell T.heap.size ce).heap ((hP.kept hk9).app (fun k x hx => by
      have hz : k < 1 := (List.getElem?_eq_some_iff.mp hx).1
      rw [show k = 0 by omega] at hx
      cases hx
      exact ⟨_, hc, ce, hh, hcid, hvm9, fun k hk => absurd hk (Nat.not_lt_zero k)⟩)) (hD.push hP rfl (hA _ hS.1)) ⟨Nat.le_trans hS.1 f1, fun q h1 h2 => (f2 q (Nat.lt_of_lt_of_le h1 hS.1) (fun z hz => nomatch hz)).trans (hS.2.1 q h1 h2), hS.2.2⟩ _ rfl X6
  refine ⟨t, st1 _ ?_, b1⟩
  show Steps p.tables e below (T1.setTop { method := m, pc := pc + 3, locals := ls, stack := .ref T.heap.size :: rest, locked := none }) _
  jvm_step X₁.here [X₁.here.top, hexec, d3', Value.category]
  exact st _ a1
/-- 'throw x' of an object that was made before -/
theorem vx_athrow {cc : ByteArray} {pc : Nat} (hexec : p.tables.exec = Jvm.exec) (hb : c.code = cc) {q : Addr} (hdg : decode cc pc = .ok (.athrow, 1)) (k : vx_W p l e R s m args below meth c H locs cells slots Q (F0 m pc ls rest) q) : W p l e R s m args below meth c H locs cells slots Q (F0 m pc ls (.ref q :: rest)) := by
  intro T hT X
  obtain ⟨t, st, hq⟩ := k T hT X
  refine ⟨t, ?_, hq⟩
  have hdg' : decode c.code pc = .ok (.athrow, 1) := by rw [hb]; exact hdg
  jvm_step X.here [X.here.top, hexec, hdg', athrow.wp_sem]
  exact st
end VXK2
/-! ===== END ===== -/
/-! ===== BEGIN a constructor that throws (launches without stack traces) ===== -/
section VXIA
variable {p : Program} {l : Launch} {e : Env} {R : Room} {s : State} {m : MethodId} {args : Array Value} {below : List Frame} {meth : Method} {c : Code} {T : State} {locs : List Loc} {cells slots : Nat}
theorem vx_callI (X : Stand p l e R s m args below meth c T locs cells slots) (hexec : p.tables.exec = Jvm.exec) {own : String} {index : Nat} {y : MethodName} {bytes : ByteArray} {maxL : Nat}
    (hown : s.vm.findClass own = some m.cls) (hy1 : y.name = "<init>") (hlink : (Cond.methodLink own index y).before args s = true) (hinst : (Cond.instanceMethod y).before args s = true)
    (hcode : (Cond.code y bytes maxL none).before args s = true) (hy : y.cls ≠ "java/lang/invoke/MethodHandle" ∧ y.cls ≠ "java/lang/invoke/VarHandle")
    {W9 : Nat} {Pre : Pt → Array Value → Prop} {Post : Pt → Array Value → Option Value → Pt → Prop} {PostX : Pt → Array Value → Addr → Pt → Prop} (hK : vx_Back l R p e below s args y 3 W9 Pre Post PostX)
    {g : JFrame} (hg : g.method = m) (hsize : g.locals.size = c.maxLocals) {a : Addr} {argsL rest : List Value} (hlen : ∀ sig, parseMethodDescriptor y.desc = some sig → argsL.length = sig.parameters.length)
    (hstack : g.stack = argsL.reverse ++ .ref a :: rest) (hW : 2 * g.monitorRoom + (rest.map fun v => v.category).sum ≤ W9) (hdg : decode c.code g.pc = .ok (.invokespecial index, 3))
    (hpre : ∀ vm₁, s.WarmedH vm₁ → Pre ⟨T.setVm vm₁, locs, cells, slots⟩ (Value.ref a :: argsL).toArray) :
    (∃ (v : Option Value) (vm₁ : Vm) (B : Pt), s.WarmedH vm₁ ∧ Stand p l e R s m args below meth c B.U B.locs B.cells B.slots ∧ Post ⟨T.setVm vm₁, locs, cells, slots⟩ (Value.ref a :: argsL).toArray v B ∧
      ∀ target, Steps p.tables e below (B.U.setTop { g with pc := g.pc + 3, stack := v.toList ++ rest }) target → Steps p.tables e below (T.setTop g) target) ∨
    (∃ (q : Addr) (vm₁ : Vm) (B : Pt), s.WarmedH vm₁ ∧ Stand p l e R s m args below meth c B.U B.locs B.cells B.slots ∧ PostX ⟨T.setVm vm₁, locs, cells, slots⟩ (Value.ref a :: argsL).toArray q B ∧
      Steps p.tables e below (T.setTop g) ((B.U.setTop { g with stack := rest }).pushFrame (.throwing q))) := by
  subst hg
  have hpl : e.platform.magicAccessors = ({} : Platform).magicAccessors := by rw [X.admits.platform]
  obtain ⟨mk, methM, cM, kP, vm₁, hnamed, hmethM, hcodeM, -, hlocalsM, -, hkP, -, hW₁, hstep₁⟩ := Steps.initColdArgs (e := e) X.here hexec X.warmed hpl hown hy1 hy hlink hinst hcode (f := g) rfl hlen hstack hdg
  have X₁ := X.noted hW₁
  rcases hK g.method meth c ⟨T.setVm vm₁, locs, cells, slots⟩ { g with stack := rest } (.invokespecial index) mk (Value.ref a :: argsL).toArray X₁ rfl hsize hdg hW (X₁.named hnamed) (hpre vm₁ X₁.warmed) with ⟨v, B, X', hpost, hsteps⟩ | ⟨q, B, X', hpost, hsteps⟩
  · exact Or.inl ⟨v, vm₁, B, X₁.warmed, X', hpost, fun target h => hstep₁ _ fun acts => by rw [doInvoke_state]; exact hsteps.trans h⟩
  · exact Or.inr ⟨q, vm₁, B, X₁.warmed, X', hpost, hstep₁ _ fun acts => by rw [doInvoke_state]; exact hsteps⟩
end VXIA
section VXIB
variable {p : Program} {l : Launch} {e : Env} {R : Room} {s : State} {m : MethodId} {args : Array Value} {below : List Frame} {meth : Method} {c : Code} {H : Heap} {locs : List Loc} {cells slots : Nat}
variable {y : MethodName} {bytes cc : ByteArray} {maxL nL mc ms n index : Nat} {ret : Option FieldType} {ws : List Cond} {rm : Room} {Pc : Array Value → State → Prop} {Qc : Array Value → State → Outcome → State → Prop} {XC : String → State → State → Prop} {free : Addr → Prop} {Ts : List Cond} {own C : String} {b : Addr} {As rest : List Value} {g : JFrame}
theorem vx_runI (S : CallFix p m c cc nL s args Ts own) (hM : vx_Met l y ws rm Pc Qc XC mc ms free) (cw : CallB R s args own index y bytes maxL none ws rm mc ms n ∧ y.name = "<init>" ∧ (Cond.instanceMethod y).before args s = true) (hp : PreS s H Pc (.ref b :: As))
    (hg : g.method = m) (hn : As.length = n) (hsize : g.locals.size = nL) (hstack : g.stack = As.reverse ++ .ref b :: rest) (hW : 2 * g.monitorRoom + (rest.map fun v => v.category).sum ≤ 8) (hdg : decode cc g.pc = .ok (.invokespecial index, 3)) (hf : cells + mc ≤ R.cells ∧ slots + ms ≤ R.slots) :
    vx_Run p l e R s m args below meth c H locs cells slots mc ms g rest (Qc (Value.ref b :: As).toArray) XC free := by
  have hK : vx_Back l R p e below s args y 3 8 (PreOf R mc ms Pc) (PostOf Qc mc ms free) (vx_Post XC mc ms free) := vx_callBack cw.1 hM hp.1
  obtain ⟨⟨-, -, -, -, -, -, hcode, -, hy, hlen, hl⟩, hy1, hin⟩ := cw
  obtain ⟨hx, hb, hml, ho, -⟩ := S
  have hPc := hp.2
  intro T hT X
  rcases vx_callI X hx (bytes := bytes) (maxL := maxL) ho hy1 hl hin hcode hy hK hg (hsize.trans hml.symm) (a := b) (argsL := As) (rest := rest) (fun sig h => hn.trans (hlen sig h)) hstack hW (by rw [hb]; exact hdg)
    (fun vm₁ hW₁ => ⟨hf.1, hf.2, hPc (T.setVm vm₁) hT hW₁⟩) with ⟨v, vm₁, ⟨U', l2, c2, s2⟩, hW₁, X', ⟨g', mk, t, L, e1, e2, hq, h1, hL, h2, h3⟩, st⟩ | ⟨q, vm₁, ⟨U', l2, c2, s2⟩, hW₁, X', ⟨g', mk, t, L, E, ce, e1, e2, hq, hce, hcv, hcl, h1, hL, h2, h3⟩, st⟩
  · dsimp only [Pt.U, Pt.locs, Pt.cells, Pt.slots] at X' e1 e2 h1 h2 h3 st
    subst h1; subst h2; subst h3
    exact Or.inl ⟨v, (T.setVm vm₁).calling g' mk (Value.ref b :: As).toArray, t, U', L, hT, X', hL, e1, e2, hq, st⟩
  · dsimp only [Pt.U, Pt.locs, Pt.cells, Pt.slots] at X' e1 e2 h1 h2 h3 st hcl
    subst h1; subst h2; subst h3
    exact Or.inr ⟨q, (T.setVm vm₁).calling g' mk (Value.ref b :: As).toArray, t, U', L, E, ce, hT, X', hL, e1, e2, hq, hce, hcv, vx_cls hW₁ hcl, st⟩
end VXIB
/-! ===== END ===== -/
/-! ===== BEGIN a private constructor of a nest mate that throws ===== -/
section VXIC
variable {p : Program} {l : Launch} {e : Env} {R : Room} {s : State} {m : MethodId} {args : Array Value} {below : List Frame} {meth : Method} {c : Code} {T : State} {locs : List Loc} {cells slots : Nat}
theorem vx_callIN (X : Stand p l e R s m args below meth c T locs cells slots) (hexec : p.tables.exec = Jvm.exec) {own : String} {index : Nat} {host : String} {y : MethodName} {bytes : ByteArray} {maxL : Nat}
    (hown : s.vm.findClass own = some m.cls) (hy1 : y.name = "<init>") (hlink : (Cond.methodLinkNest own index y host).before args s = true) (hinst : (Cond.instanceMethod y).before args s = true)
    (hcode : (Cond.code y bytes maxL none).before args s = true) (hy : y.cls ≠ "java/lang/invoke/MethodHandle" ∧ y.cls ≠ "java/lang/invoke/VarHandle")
    {W9 : Nat} {Pre : Pt → Array Value → Prop} {Post : Pt → Array Value → Option Value → Pt → Prop} {PostX : Pt → Array Value → Addr → Pt → Prop} (hK : vx_Back l R p e below s args y 3 W9 Pre Post PostX)
    {g : JFrame} (hg : g.method = m) (hsize : g.locals.size = c.maxLocals) {a : Addr} {argsL rest : List Value} (hlen : ∀ sig, parseMethodDescriptor y.desc = some sig → argsL.length = sig.parameters.length)
    (hstack : g.stack = argsL.reverse ++ .ref a :: rest) (hW : 2 * g.monitorRoom + (rest.map fun v => v.category).sum ≤ W9) (hdg : decode c.code g.pc = .ok (.invokespecial index, 3))
    (hpre : ∀ vm₁, s.WarmedH vm₁ → Pre ⟨T.setVm vm₁, locs, cells, slots⟩ (Value.ref a :: argsL).toArray) :
    (∃ (v : Option Value) (vm₁ : Vm) (B : Pt), s.WarmedH vm₁ ∧ Stand p l e R s m args below meth c B.U B.locs B.cells B.slots ∧ Post ⟨T.setVm vm₁, locs, cells, slots⟩ (Value.ref a :: argsL).toArray v B ∧
      ∀ target, Steps p.tables e below (B.U.setTop { g with pc := g.pc + 3, stack := v.toList ++ rest }) target → Steps p.tables e below (T.setTop g) target) ∨
    (∃ (q : Addr) (vm₁ : Vm) (B : Pt), s.WarmedH vm₁ ∧ Stand p l e R s m args below meth c B.U B.locs B.cells B.slots ∧ PostX ⟨T.setVm vm₁, locs, cells, slots⟩ (Value.ref a :: argsL).toArray q B ∧
      Steps p.tables e below (T.setTop g) ((B.U.setTop { g with stack := rest }).pushFrame (.throwing q))) := by
  subst hg
  have hpl : e.platform.magicAccessors = ({} : Platform).magicAccessors := by rw [X.admits.platform]
  obtain ⟨mk, methM, cM, kP, vm₁, hnamed, hmethM, hcodeM, -, hlocalsM, -, hkP, -, hW₁, hstep₁⟩ := Steps.initColdArgsNest (e := e) X.here hexec X.warmed hpl hown hy1 hy hlink hinst hcode (f := g) rfl hlen hstack hdg
  have X₁ := X.noted hW₁
  rcases hK g.method meth c ⟨T.setVm vm₁, locs, cells, slots⟩ { g with stack := rest } (.invokespecial index) mk (Value.ref a :: argsL).toArray X₁ rfl hsize hdg hW (X₁.named hnamed) (hpre vm₁ X₁.warmed) with ⟨v, B, X', hpost, hsteps⟩ | ⟨q, B, X', hpost, hsteps⟩
  · exact Or.inl ⟨v, vm₁, B, X₁.warmed, X', hpost, fun target h => hstep₁ _ fun acts => by rw [doInvoke_state]; exact hsteps.trans h⟩
  · exact Or.inr ⟨q, vm₁, B, X₁.warmed, X', hpost, hstep₁ _ fun acts => by rw [doInvoke_state]; exact hsteps⟩
end VXIC
section VXID
variable {p : Program} {l : Launch} {e : Env} {R : Room} {s : State} {m : MethodId} {args : Array Value} {below : List Frame} {meth : Method} {c : Code} {H : Heap} {locs : List Loc} {cells slots : Nat}
theorem vx_runIN {y : MethodName} {bytes cc : ByteArray} {maxL nL mc ms n index : Nat} {ws : List Cond} {rm : Room} {Pc : Array Value → State → Prop} {Qc : Array Value → State → Outcome → State → Prop} {XC : String → State → State → Prop} {free : Addr → Prop} {Ts : List Cond} {own host : String} {b : Addr} {As rest : List Value} {g : JFrame}
    (S : CallFix p m c cc nL s args Ts own) (hM : vx_Met l y ws rm Pc Qc XC mc ms free) (cw : va_CN R s args own index y host bytes maxL none ws rm mc ms n ∧ y.name = "<init>" ∧ (Cond.instanceMethod y).before args s = true) (hp : PreS s H Pc (.ref b :: As))
    (hg : g.method = m) (hn : As.length = n) (hsize : g.locals.size = nL) (hstack : g.stack = As.reverse ++ .ref b :: rest) (hW : 2 * g.monitorRoom + (rest.map fun v => v.category).sum ≤ 8) (hdg : decode cc g.pc = .ok (.invokespecial index, 3)) (hf : cells + mc ≤ R.cells ∧ slots + ms ≤ R.slots) :
    vx_Run p l e R s m args below meth c H locs cells slots mc ms g rest (Qc (Value.ref b :: As).toArray) XC free := by
  obtain ⟨⟨⟨hrc, hrs, hfr, hlo, hws, hcw⟩, hcode, hini, hy, hlen, hl⟩, hx1, hx2⟩ := cw
  have hK : vx_Back l R p e below s args y 3 8 (PreOf R mc ms Pc) (PostOf Qc mc ms free) (vx_Post XC mc ms free) := vx_back (bytes := bytes) (maxL := maxL) (ret := none) hM hp.1 hrc hrs hfr hlo hws hcw (fun a' U hW => word_at hW (Or.inl (by first | rfl | simp [Cond.onTables, Cond.keeps, Cond.steady])) hini)
  obtain ⟨hx, hb, hml, ho, -⟩ := S
  have hPc := hp.2
  intro T hT X
  rcases vx_callIN X hx (bytes := bytes) (maxL := maxL) ho hx1 hl hx2 hcode hy hK hg (hsize.trans hml.symm) (a := b) (argsL := As) (rest := rest) (fun sig h => hn.trans (hlen sig h)) hstack hW (by rw [hb]; exact hdg)
    (fun vm₁ hW₁ => ⟨hf.1, hf.2, hPc (T.setVm vm₁) hT hW₁⟩) with ⟨v, vm₁, ⟨U', l2, c2, s2⟩, hW₁, X', ⟨g', mk, t, L, e1, e2, hq, h1, hL, h2, h3⟩, st⟩ | ⟨q, vm₁, ⟨U', l2, c2, s2⟩, hW₁, X', ⟨g', mk, t, L, E, ce, e1, e2, hq, hce, hcv, hcl, h1, hL, h2, h3⟩, st⟩
  · dsimp only [Pt.U, Pt.locs, Pt.cells, Pt.slots] at X' e1 e2 h1 h2 h3 st
    subst h1; subst h2; subst h3
    exact Or.inl ⟨v, (T.setVm vm₁).calling g' mk (Value.ref b :: As).toArray, t, U', L, hT, X', hL, e1, e2, hq, st⟩
  · dsimp only [Pt.U, Pt.locs, Pt.cells, Pt.slots] at X' e1 e2 h1 h2 h3 st hcl
    subst h1; subst h2; subst h3
    exact Or.inr ⟨q, (T.setVm vm₁).calling g' mk (Value.ref b :: As).toArray, t, U', L, E, ce, hT, X', hL, e1, e2, hq, hce, hcv, vx_cls hW₁ hcl, st⟩
end VXID
/-! ===== END ===== -/
/-! ===== BEGIN a method of a class above, found by the receiver, that may throw (follows va_callVU, va_runU of this kit) ===== -/
section
variable {p : Program} {l : Launch} {e : Env} {R : Room} {s : State} {m : MethodId} {args : Array Value} {below : List Frame} {meth : Method} {c : Code} {H : Heap} {locs : List Loc} {cells slots : Nat}
theorem vx_callVU {T : State} {locs : List Loc} {cells slots : Nat} (X : Stand p l e R s m args below meth c T locs cells slots) (hexec : p.tables.exec = Jvm.exec) {own C owner : String} {index : Nat} {x y : MethodName} {bytes : ByteArray} {maxL : Nat} {ret : Option FieldType}
    (hown : s.vm.findClass own = some m.cls) (hlink : (Cond.methodLink own index x).before args s = true) (hsame : (Cond.sameMethod x.cls owner x.name x.desc).before args s = true)
    (hd0 : va_Decl s ⟨owner, x.name, x.desc⟩) (howner : owner ≠ "java/lang/invoke/MethodHandle" ∧ owner ≠ "java/lang/invoke/VarHandle")
    (hsel : (Cond.selects C x y).before args s = true) (hinst : (Cond.instanceMethod y).before args s = true) (hcode : (Cond.code y bytes maxL ret).before args s = true)
    {W : Nat} {Pre : Pt → Array Value → Prop} {Post : Pt → Array Value → Option Value → Pt → Prop} {PostX : Pt → Array Value → Addr → Pt → Prop} (hK : vx_Back l R p e below s args y 3 W Pre Post PostX)
    {b : Addr} {cellB : Cell} (hcell : T.heap[b]? = some cellB) (hobj : cellB.vm.isStatics = false) (hcls : s.vm.findClass C = some cellB.cls)
    {g : JFrame} (hg : g.method = m) (hsize : g.locals.size = c.maxLocals) {argsL rest : List Value} (hlen : ∀ sig, parseMethodDescriptor x.desc = some sig → argsL.length = sig.parameters.length)
    (hstack : g.stack = argsL.reverse ++ .ref b :: rest) (hW : 2 * g.monitorRoom + (rest.map fun v => v.category).sum ≤ W) (hdg : decode c.code g.pc = .ok (.invokevirtual index, 3))
    (hpre : ∀ vm₁, s.WarmedH vm₁ → Pre ⟨T.setVm vm₁, locs, cells, slots⟩ (Value.ref b :: argsL).toArray) :
    (∃ (v : Option Value) (vm₁ : Vm) (B : Pt), s.WarmedH vm₁ ∧ Stand p l e R s m args below meth c B.U B.locs B.cells B.slots ∧ Post ⟨T.setVm vm₁, locs, cells, slots⟩ (Value.ref b :: argsL).toArray v B ∧
      ∀ target, Steps p.tables e below (B.U.setTop { g with pc := g.pc + 3, stack := v.toList ++ rest }) target → Steps p.tables e below (T.setTop g) target) ∨
    (∃ (q : Addr) (vm₁ : Vm) (B : Pt), s.WarmedH vm₁ ∧ Stand p l e R s m args below meth c B.U B.locs B.cells B.slots ∧ PostX ⟨T.setVm vm₁, locs, cells, slots⟩ (Value.ref b :: argsL).toArray q B ∧
      Steps p.tables e below (T.setTop g) ((B.U.setTop { g with stack := rest }).pushFrame (.throwing q))) := by
  obtain ⟨r0, r, hn, hrm, hstR, hsigR⟩ := hd0
  obtain ⟨cn, ck, r1, hcn, hck, hni, hf, hn1⟩ := Cond.sameMethod_found hsame
  cases hn.symm.trans hn1
  obtain ⟨mk, methM, hnamed, hmethM, -, habM⟩ := Cond.instanceMethod_spec hinst
  obtain ⟨c2, r2, m2, q1, q2, q3, q4, kP, hkP, hkPi⟩ := Cond.selects_spec hsel
  cases hcls.symm.trans q1
  cases hf.symm.trans q2
  cases hnamed.symm.trans q3
  have hselP : selectMethod e.platform s.vm cellB.cls r0 = .method mk := by rw [Launch.admits_selectMethod X.admits]; exact q4
  obtain ⟨vm₁, X₁, hstep₁⟩ := X.invokevirtualUp hexec hown hlink hsame howner hn hrm hstR (a := b) (cell := cellB) hcell
    (fun z h => by rw [h] at hobj; cases hobj) hselP hmethM habM hkP hkPi (g := g) hg (argsL := argsL) (rest := rest) (hlen _ hsigR) hstack hdg
  rcases hK m meth c ⟨T.setVm vm₁, locs, cells, slots⟩ { g with stack := rest } (.invokevirtual index) mk (Value.ref b :: argsL).toArray X₁ hg hsize hdg hW (X₁.named hnamed) (hpre vm₁ X₁.warmed) with ⟨v, B, X', hpost, hsteps⟩ | ⟨q, B, X', hpost, hsteps⟩
  · exact Or.inl ⟨v, vm₁, B, X₁.warmed, X', hpost, fun target h => hstep₁ _ fun acts => by rw [doInvoke_state]; exact hsteps.trans h⟩
  · exact Or.inr ⟨q, vm₁, B, X₁.warmed, X', hpost, hstep₁ _ fun acts => by rw [doInvoke_state]; exact hsteps⟩
theorem vx_runU {x y : MethodName} {bytes cc : ByteArray} {maxL nL mc ms n index : Nat} {ret : Option FieldType} {ws : List Cond} {rm : Room} {Pc : Array Value → State → Prop} {Qc : Array Value → State → Outcome → State → Prop} {XC : String → State → State → Prop} {free : Addr → Prop} {Ts : List Cond} {own C owner : String} {b : Addr} {As rest : List Value} {g : JFrame}
    (S : CallFix p m c cc nL s args Ts own) (hM : vx_Met l y ws rm Pc Qc XC mc ms free) (cw : va_CU R s args own C owner index x y bytes maxL ret ws rm mc ms n) (hp : PreV s H C b Pc As)
    (hg : g.method = m) (hn : As.length = n) (hsize : g.locals.size = nL) (hstack : g.stack = As.reverse ++ .ref b :: rest) (hW : 2 * g.monitorRoom + (rest.map fun v => v.category).sum ≤ 8) (hdg : decode cc g.pc = .ok (.invokevirtual index, 3)) (hf : cells + mc ≤ R.cells ∧ slots + ms ≤ R.slots) :
    vx_Run p l e R s m args below meth c H locs cells slots mc ms g rest (Qc (Value.ref b :: As).toArray) XC free := by
  obtain ⟨hrc, hrs, hfr, hlo, hws, hcw⟩ := cw.back
  have hini := cw.init
  have hK : vx_Back l R p e below s args y 3 8 (PreOf R mc ms Pc) (PostOf Qc mc ms free) (vx_Post XC mc ms free) := vx_back (bytes := bytes) (maxL := maxL) (ret := ret) hM hp.1 hrc hrs hfr hlo hws hcw (fun a' U hW => word_at hW (Or.inl (by first | rfl | simp [Cond.onTables, Cond.keeps, Cond.steady])) hini)
  obtain ⟨hx, hb, hml, ho, -⟩ := S
  obtain ⟨-, ⟨cellB, hcB, hoB, hclB⟩, hPc⟩ := hp
  intro T hT X
  rcases vx_callVU X hx (C := C) (owner := owner) (bytes := bytes) (maxL := maxL) (ret := ret) ho cw.link cw.same cw.decl cw.notMH cw.sel cw.inst cw.code hK (by rw [hT]; exact hcB) hoB hclB hg (hsize.trans hml.symm) (argsL := As) (rest := rest) (fun sig h => hn.trans (cw.len sig h)) hstack hW (by rw [hb]; exact hdg)
    (fun vm₁ hW₁ => ⟨hf.1, hf.2, hPc (T.setVm vm₁) hT hW₁⟩) with ⟨v, vm₁, ⟨U', l2, c2, s2⟩, hW₁, X', ⟨g', mk, t, L, e1, e2, hq, h1, hL, h2, h3⟩, st⟩ | ⟨q, vm₁, ⟨U', l2, c2, s2⟩, hW₁, X', ⟨g', mk, t, L, E, ce, e1, e2, hq, hce, hcv, hcl, h1, hL, h2, h3⟩, st⟩
  · dsimp only [Pt.U, Pt.locs, Pt.cells, Pt.slots] at X' e1 e2 h1 h2 h3 st
    subst h1; subst h2; subst h3
    exact Or.inl ⟨v, (T.setVm vm₁).calling g' mk (Value.ref b :: As).toArray, t, U', L, hT, X', hL, e1, e2, hq, st⟩
  · dsimp only [Pt.U, Pt.locs, Pt.cells, Pt.slots] at X' e1 e2 h1 h2 h3 st hcl
    subst h1; subst h2; subst h3
    exact Or.inr ⟨q, (T.setVm vm₁).calling g' mk (Value.ref b :: As).toArray, t, U', L, E, ce, hT, X', hL, e1, e2, hq, hce, hcv, vx_cls hW₁ hcl, st⟩
end
/-! ===== END ===== -/
/-! ===== BEGIN super.m(..) that may throw (follows va_callSU, va_runSU) ===== -/
section
variable {p : Program} {l : Launch} {e : Env} {R : Room} {s : State} {m : MethodId} {args : Array Value} {below : List Frame} {meth : Method} {c : Code} {H : Heap} {locs : List Loc} {cells slots : Nat}
theorem vx_callSU {T : State} {locs : List Loc} {cells slots : Nat} (X : Stand p l e R s m args below meth c T locs cells slots) (hexec : p.tables.exec = Jvm.exec) {own : String} {index : Nat} {y : MethodName} {bytes : ByteArray} {maxL : Nat} {ret : Option FieldType}
    (hown : s.vm.findClass own = some m.cls) (hlink : (Cond.methodLink own index y).before args s = true) (hsame : (Cond.sameMethod y.cls y.cls y.name y.desc).before args s = true) (hsup : (Cond.superclass own y.cls).before args s = true)
    (hinst : (Cond.instanceMethod y).before args s = true) (hcode : (Cond.code y bytes maxL ret).before args s = true) (hno : y.name ≠ "<init>")
    {W : Nat} {Pre : Pt → Array Value → Prop} {Post : Pt → Array Value → Option Value → Pt → Prop} {PostX : Pt → Array Value → Addr → Pt → Prop} (hK : vx_Back l R p e below s args y 3 W Pre Post PostX)
    {b : Addr} {cellB : Cell} {kB : Class} (hcell : T.heap[b]? = some cellB) (hobj : cellB.vm.isStatics = false) (hkB : s.vm.classes[cellB.cls]? = some kB)
    {g : JFrame} (hg : g.method = m) (hsize : g.locals.size = c.maxLocals) {argsL rest : List Value} (hlen : ∀ sig, parseMethodDescriptor y.desc = some sig → argsL.length = sig.parameters.length)
    (hstack : g.stack = argsL.reverse ++ .ref b :: rest) (hW : 2 * g.monitorRoom + (rest.map fun v => v.category).sum ≤ W) (hdg : decode c.code g.pc = .ok (.invokespecial index, 3))
    (hpre : ∀ vm₁, s.WarmedH vm₁ → Pre ⟨T.setVm vm₁, locs, cells, slots⟩ (Value.ref b :: argsL).toArray) :
    (∃ (v : Option Value) (vm₁ : Vm) (B : Pt), s.WarmedH vm₁ ∧ Stand p l e R s m args below meth c B.U B.locs B.cells B.slots ∧ Post ⟨T.setVm vm₁, locs, cells, slots⟩ (Value.ref b :: argsL).toArray v B ∧
      ∀ target, Steps p.tables e below (B.U.setTop { g with pc := g.pc + 3, stack := v.toList ++ rest }) target → Steps p.tables e below (T.setTop g) target) ∨
    (∃ (q : Addr) (vm₁ : Vm) (B : Pt), s.WarmedH vm₁ ∧ Stand p l e R s m args below meth c B.U B.locs B.cells B.slots ∧ PostX ⟨T.setVm vm₁, locs, cells, slots⟩ (Value.ref b :: argsL).toArray q B ∧
      Steps p.tables e below (T.setTop g) ((B.U.setTop { g with stack := rest }).pushFrame (.throwing q))) := by
  obtain ⟨mk, methM, hnamed, hmethM, hstM, habM⟩ := Cond.instanceMethod_spec hinst
  obtain ⟨methM', cM, hmethM', -, -, -, -, -, -, hsigM⟩ := Cond.code_spec hnamed hcode
  cases hmethM.symm.trans hmethM'
  obtain ⟨ps, dk, kp, hps, hdk, hkp, hsuper, -, -, hnid⟩ := Cond.superclass_spec hown hsup
  have hn : s.methodNamed? ⟨y.cls, y.name, y.desc⟩ = some mk := hnamed
  have hpm : ps = mk.cls := Option.some.inj (hps.symm.trans (findClass_of_methodNamed hnamed))
  have hsub : s.vm.isSubclass ps mk.cls = true := by rw [hpm]; simp [Vm.isSubclass, Vm.isSubclassAux]
  obtain ⟨vm₁, X₁, hstep₁⟩ := X.invokespecialUp hexec hown hlink hsame hn hmethM hstM habM hno hdk hnid hps hsuper hsub (a := b) (cell := cellB) hcell
    (fun z h => by rw [h] at hobj; cases hobj) hkB (g := g) hg (argsL := argsL) (rest := rest) (hlen _ hsigM) hstack hdg
  rcases hK m meth c ⟨T.setVm vm₁, locs, cells, slots⟩ { g with stack := rest } (.invokespecial index) mk (Value.ref b :: argsL).toArray X₁ hg hsize hdg hW (X₁.named hnamed) (hpre vm₁ X₁.warmed) with ⟨v, B, X', hpost, hsteps⟩ | ⟨q, B, X', hpost, hsteps⟩
  · exact Or.inl ⟨v, vm₁, B, X₁.warmed, X', hpost, fun target h => hstep₁ _ (by rw [doInvoke_state]; exact hsteps.trans h)⟩
  · exact Or.inr ⟨q, vm₁, B, X₁.warmed, X', hpost, hstep₁ _ (by rw [doInvoke_state]; exact hsteps)⟩
theorem vx_runSU {y : MethodName} {bytes cc : ByteArray} {maxL nL mc ms n index : Nat} {ret : Option FieldType} {ws : List Cond} {rm : Room} {Pc : Array Value → State → Prop} {Qc : Array Value → State → Outcome → State → Prop} {XC : String → State → State → Prop} {free : Addr → Prop} {Ts : List Cond} {own C : String} {cC : ClassId} {b : Addr} {As rest : List Value} {g : JFrame}
    (hat : ClassAt s C cC) (S : CallFix p m c cc nL s args Ts own) (hM : vx_Met l y ws rm Pc Qc XC mc ms free) (cw : va_CS R s args own index y bytes maxL ret ws rm mc ms n) (hp : PreV s H C b Pc As)
    (hg : g.method = m) (hn : As.length = n) (hsize : g.locals.size = nL) (hstack : g.stack = As.reverse ++ .ref b :: rest) (hW : 2 * g.monitorRoom + (rest.map fun v => v.category).sum ≤ 8) (hdg : decode cc g.pc = .ok (.invokespecial index, 3)) (hf : cells + mc ≤ R.cells ∧ slots + ms ≤ R.slots) :
    vx_Run p l e R s m args below meth c H locs cells slots mc ms g rest (Qc (Value.ref b :: As).toArray) XC free := by
  obtain ⟨⟨hrc, hrs, hfr, hlo, hws, hcw⟩, hl1, hl2, hl3, hl4, hini, hcode, hno, hlen⟩ := cw
  have hK : vx_Back l R p e below s args y 3 8 (PreOf R mc ms Pc) (PostOf Qc mc ms free) (vx_Post XC mc ms free) := vx_back (bytes := bytes) (maxL := maxL) (ret := ret) hM hp.1 hrc hrs hfr hlo hws hcw (fun a' U hW => word_at hW (Or.inl (by first | rfl | simp [Cond.onTables, Cond.keeps, Cond.steady])) hini)
  obtain ⟨hx, hb, hml, ho, -⟩ := S
  obtain ⟨-, ⟨cellB, hcB, hoB, hclB⟩, hPc⟩ := hp
  obtain ⟨hfc, kB, hkB, -⟩ := hat
  cases hfc.symm.trans hclB
  intro T hT X
  rcases vx_callSU X hx (bytes := bytes) (maxL := maxL) (ret := ret) ho hl1 hl2 hl3 hl4 hcode hno hK (by rw [hT]; exact hcB) hoB hkB hg (hsize.trans hml.symm) (argsL := As) (rest := rest) (fun sig h => hn.trans (hlen sig h)) hstack hW (by rw [hb]; exact hdg)
    (fun vm₁ hW₁ => ⟨hf.1, hf.2, hPc (T.setVm vm₁) hT hW₁⟩) with ⟨v, vm₁, ⟨U', l2, c2, s2⟩, hW₁, X', ⟨g', mk, t, L, e1, e2, hq, h1, hL, h2, h3⟩, st⟩ | ⟨q, vm₁, ⟨U', l2, c2, s2⟩, hW₁, X', ⟨g', mk, t, L, E, ce, e1, e2, hq, hce, hcv, hcl, h1, hL, h2, h3⟩, st⟩
  · dsimp only [Pt.U, Pt.locs, Pt.cells, Pt.slots] at X' e1 e2 h1 h2 h3 st
    subst h1; subst h2; subst h3
    exact Or.inl ⟨v, (T.setVm vm₁).calling g' mk (Value.ref b :: As).toArray, t, U', L, hT, X', hL, e1, e2, hq, st⟩
  · dsimp only [Pt.U, Pt.locs, Pt.cells, Pt.slots] at X' e1 e2 h1 h2 h3 st hcl
    subst h1; subst h2; subst h3
    exact Or.inr ⟨q, (T.setVm vm₁).calling g' mk (Value.ref b :: As).toArray, t, U', L, E, ce, hT, X', hL, e1, e2, hq, hce, hcv, vx_cls hW₁ hcl, st⟩
end
/-! ===== END ===== -/
/-! ===== BEGIN a private method of a nest mate that may throw (follows va_callVN, va_callSN, va_runVN, va_runSN) ===== -/
section
variable {p : Program} {l : Launch} {e : Env} {R : Room} {s : State} {m : MethodId} {args : Array Value} {below : List Frame} {meth : Method} {c : Code} {H : Heap} {locs : List Loc} {cells slots : Nat}
variable {T : State}
theorem vx_callVN (X : Stand p l e R s m args below meth c T locs cells slots) (hexec : p.tables.exec = Jvm.exec) {own C : String} {index : Nat} {host : String} {y : MethodName} {bytes : ByteArray} {maxL : Nat} {ret : Option FieldType}
    (hown : s.vm.findClass own = some m.cls) (hlink : (Cond.methodLinkNest own index y host).before args s = true) (hinst : (Cond.instanceMethod y).before args s = true) (hsel : (Cond.selects C y y).before args s = true)
    (hcode : (Cond.code y bytes maxL ret).before args s = true) (hy : y.cls ≠ "java/lang/invoke/MethodHandle" ∧ y.cls ≠ "java/lang/invoke/VarHandle")
    {W : Nat} {Pre : Pt → Array Value → Prop} {Post : Pt → Array Value → Option Value → Pt → Prop} {PostX : Pt → Array Value → Addr → Pt → Prop} (hK : vx_Back l R p e below s args y 3 W Pre Post PostX)
    {b : Addr} {cellB : Cell} (hcell : T.heap[b]? = some cellB) (hobj : cellB.vm.isStatics = false) (hcls : s.vm.findClass C = some cellB.cls)
    {g : JFrame} (hg : g.method = m) (hsize : g.locals.size = c.maxLocals) {argsL rest : List Value} (hlen : ∀ sig, parseMethodDescriptor y.desc = some sig → argsL.length = sig.parameters.length)
    (hstack : g.stack = argsL.reverse ++ .ref b :: rest) (hW : 2 * g.monitorRoom + (rest.map fun v => v.category).sum ≤ W) (hdg : decode c.code g.pc = .ok (.invokevirtual index, 3))
    (hpre : ∀ vm₁, s.WarmedH vm₁ → Pre ⟨T.setVm vm₁, locs, cells, slots⟩ (Value.ref b :: argsL).toArray) :
    (∃ (v : Option Value) (vm₁ : Vm) (B : Pt), s.WarmedH vm₁ ∧ Stand p l e R s m args below meth c B.U B.locs B.cells B.slots ∧ Post ⟨T.setVm vm₁, locs, cells, slots⟩ (Value.ref b :: argsL).toArray v B ∧
      ∀ target, Steps p.tables e below (B.U.setTop { g with pc := g.pc + 3, stack := v.toList ++ rest }) target → Steps p.tables e below (T.setTop g) target) ∨
    (∃ (q : Addr) (vm₁ : Vm) (B : Pt), s.WarmedH vm₁ ∧ Stand p l e R s m args below meth c B.U B.locs B.cells B.slots ∧ PostX ⟨T.setVm vm₁, locs, cells, slots⟩ (Value.ref b :: argsL).toArray q B ∧
      Steps p.tables e below (T.setTop g) ((B.U.setTop { g with stack := rest }).pushFrame (.throwing q))) := by
  obtain ⟨mk, methM, hnamed, hmethM, hstM, habM⟩ := Cond.instanceMethod_spec hinst
  obtain ⟨methM', cM, hmethM', -, -, -, -, -, -, hsigM⟩ := Cond.code_spec hnamed hcode
  cases hmethM.symm.trans hmethM'
  obtain ⟨c2, r2, m2, q1, q2, q3, q4, kP, hkP, hkPi⟩ := Cond.selects_spec hsel
  cases hcls.symm.trans q1
  cases (State.methodFound?_of_named hnamed hy).symm.trans q2
  cases hnamed.symm.trans q3
  have hselP : selectMethod e.platform s.vm cellB.cls mk = .method mk := by rw [Launch.admits_selectMethod X.admits]; exact q4
  obtain ⟨vm₁, X₁, hstep₁⟩ := X.invokevirtualNest hexec hown hlink hnamed hmethM hstM hkP hkPi hy (a := b) (cell := cellB) hcell
    (fun z h => by rw [h] at hobj; cases hobj) hselP hmethM habM hkP hkPi (g := g) hg (argsL := argsL) (rest := rest) (hlen _ hsigM) hstack hdg
  rcases hK m meth c ⟨T.setVm vm₁, locs, cells, slots⟩ { g with stack := rest } (.invokevirtual index) mk (Value.ref b :: argsL).toArray X₁ hg hsize hdg hW (X₁.named hnamed) (hpre vm₁ X₁.warmed) with ⟨v, B, X', hpost, hsteps⟩ | ⟨q, B, X', hpost, hsteps⟩
  · exact Or.inl ⟨v, vm₁, B, X₁.warmed, X', hpost, fun target h => hstep₁ _ fun acts => by rw [doInvoke_state]; exact hsteps.trans h⟩
  · exact Or.inr ⟨q, vm₁, B, X₁.warmed, X', hpost, hstep₁ _ fun acts => by rw [doInvoke_state]; exact hsteps⟩
theorem vx_callSN (X : Stand p l e R s m args below meth c T locs cells slots) (hexec : p.tables.exec = Jvm.exec) {own : String} {index : Nat} {host : String} {y : MethodName} {bytes : ByteArray} {maxL : Nat} {ret : Option FieldType}
    (hown : s.vm.findClass own = some m.cls) (hlink : (Cond.methodLinkNest own index y host).before args s = true) (hstat : (Cond.static y).before args s = true) (hinit : (Cond.initialized y.cls).before args s = true)
    (hcode : (Cond.code y bytes maxL ret).before args s = true) (hy : y.cls ≠ "java/lang/invoke/MethodHandle" ∧ y.cls ≠ "java/lang/invoke/VarHandle")
    {W : Nat} {Pre : Pt → Array Value → Prop} {Post : Pt → Array Value → Option Value → Pt → Prop} {PostX : Pt → Array Value → Addr → Pt → Prop} (hK : vx_Back l R p e below s args y 3 W Pre Post PostX)
    {g : JFrame} (hg : g.method = m) (hsize : g.locals.size = c.maxLocals) {argsL rest : List Value} (hlen : ∀ sig, parseMethodDescriptor y.desc = some sig → argsL.length = sig.parameters.length)
    (hstack : g.stack = argsL.reverse ++ rest) (hW : 2 * g.monitorRoom + (rest.map fun v => v.category).sum ≤ W) (hdg : decode c.code g.pc = .ok (.invokestatic index, 3))
    (hpre : ∀ vm₁, s.WarmedH vm₁ → Pre ⟨T.setVm vm₁, locs, cells, slots⟩ argsL.toArray) :
    (∃ (v : Option Value) (vm₁ : Vm) (B : Pt), s.WarmedH vm₁ ∧ Stand p l e R s m args below meth c B.U B.locs B.cells B.slots ∧ Post ⟨T.setVm vm₁, locs, cells, slots⟩ argsL.toArray v B ∧
      ∀ target, Steps p.tables e below (B.U.setTop { g with pc := g.pc + 3, stack := v.toList ++ rest }) target → Steps p.tables e below (T.setTop g) target) ∨
    (∃ (q : Addr) (vm₁ : Vm) (B : Pt), s.WarmedH vm₁ ∧ Stand p l e R s m args below meth c B.U B.locs B.cells B.slots ∧ PostX ⟨T.setVm vm₁, locs, cells, slots⟩ argsL.toArray q B ∧
      Steps p.tables e below (T.setTop g) ((B.U.setTop { g with stack := rest }).pushFrame (.throwing q))) := by
  obtain ⟨mk, hnamed⟩ := Cond.code_named hcode
  obtain ⟨methM, cM, hmethM, -, -, -, -, -, -, hsigM⟩ := Cond.code_spec hnamed hcode
  have hstatic : methM.isStatic = true := Cond.static_spec hnamed hmethM hstat
  obtain ⟨kP, hkP, -⟩ := className_of_methodNamed hnamed
  have hinitP : kP.init = .initialized := Cond.initialized_spec (findClass_of_methodNamed hnamed) hkP hinit
  obtain ⟨vm₁, X₁, hstep₁⟩ := X.invokestaticNest hexec hown hlink hnamed hmethM hstatic hkP hinitP hy (g := g) hg (argsL := argsL) (rest := rest) (hlen _ hsigM) hstack hdg
  rcases hK m meth c ⟨T.setVm vm₁, locs, cells, slots⟩ { g with stack := rest } (.invokestatic index) mk argsL.toArray X₁ hg hsize hdg hW (X₁.named hnamed) (hpre vm₁ X₁.warmed) with ⟨v, B, X', hpost, hsteps⟩ | ⟨q, B, X', hpost, hsteps⟩
  · exact Or.inl ⟨v, vm₁, B, X₁.warmed, X', hpost, fun target h => hstep₁ _ fun acts => by rw [doInvoke_state]; exact hsteps.trans h⟩
  · exact Or.inr ⟨q, vm₁, B, X₁.warmed, X', hpost, hstep₁ _ fun acts => by rw [doInvoke_state]; exact hsteps⟩
theorem vx_runVN {y : MethodName} {bytes cc : ByteArray} {maxL nL mc ms n index : Nat} {ret : Option FieldType} {ws : List Cond} {rm : Room} {Pc : Array Value → State → Prop} {Qc : Array Value → State → Outcome → State → Prop} {XC : String → State → State → Prop} {free : Addr → Prop} {Ts : List Cond} {own C host : String} {b : Addr} {As rest : List Value} {g : JFrame}
    (S : CallFix p m c cc nL s args Ts own) (hM : vx_Met l y ws rm Pc Qc XC mc ms free) (cw : va_CN R s args own index y host bytes maxL ret ws rm mc ms n ∧ (Cond.instanceMethod y).before args s = true ∧ (Cond.selects C y y).before args s = true) (hp : PreV s H C b Pc As)
    (hg : g.method = m) (hn : As.length = n) (hsize : g.locals.size = nL) (hstack : g.stack = As.reverse ++ .ref b :: rest) (hW : 2 * g.monitorRoom + (rest.map fun v => v.category).sum ≤ 8) (hdg : decode cc g.pc = .ok (.invokevirtual index, 3)) (hf : cells + mc ≤ R.cells ∧ slots + ms ≤ R.slots) :
    vx_Run p l e R s m args below meth c H locs cells slots mc ms g rest (Qc (Value.ref b :: As).toArray) XC free := by
  obtain ⟨⟨⟨hrc, hrs, hfr, hlo, hws, hcw⟩, hcode, hini, hy, hlen, hl⟩, hx1, hx2⟩ := cw
  have hK : vx_Back l R p e below s args y 3 8 (PreOf R mc ms Pc) (PostOf Qc mc ms free) (vx_Post XC mc ms free) := vx_back (bytes := bytes) (maxL := maxL) (ret := ret) hM hp.1 hrc hrs hfr hlo hws hcw (fun a' U hW => word_at hW (Or.inl (by first | rfl | simp [Cond.onTables, Cond.keeps, Cond.steady])) hini)
  obtain ⟨hx, hb, hml, ho, -⟩ := S
  obtain ⟨-, ⟨cellB, hcB, hoB, hclB⟩, hPc⟩ := hp
  intro T hT X
  rcases vx_callVN X hx (C := C) (bytes := bytes) (maxL := maxL) (ret := ret) ho hl hx1 hx2 hcode hy hK (by rw [hT]; exact hcB) hoB hclB hg (hsize.trans hml.symm) (argsL := As) (rest := rest) (fun sig h => hn.trans (hlen sig h)) hstack hW (by rw [hb]; exact hdg)
    (fun vm₁ hW₁ => ⟨hf.1, hf.2, hPc (T.setVm vm₁) hT hW₁⟩) with ⟨v, vm₁, ⟨U', l2, c2, s2⟩, hW₁, X', ⟨g', mk, t, L, e1, e2, hq, h1, hL, h2, h3⟩, st⟩ | ⟨q, vm₁, ⟨U', l2, c2, s2⟩, hW₁, X', ⟨g', mk, t, L, E, ce, e1, e2, hq, hce, hcv, hcl, h1, hL, h2, h3⟩, st⟩
  · dsimp only [Pt.U, Pt.locs, Pt.cells, Pt.slots] at X' e1 e2 h1 h2 h3 st
    subst h1; subst h2; subst h3
    exact Or.inl ⟨v, (T.setVm vm₁).calling g' mk (Value.ref b :: As).toArray, t, U', L, hT, X', hL, e1, e2, hq, st⟩
  · dsimp only [Pt.U, Pt.locs, Pt.cells, Pt.slots] at X' e1 e2 h1 h2 h3 st hcl
    subst h1; subst h2; subst h3
    exact Or.inr ⟨q, (T.setVm vm₁).calling g' mk (Value.ref b :: As).toArray, t, U', L, E, ce, hT, X', hL, e1, e2, hq, hce, hcv, vx_cls hW₁ hcl, st⟩
theorem vx_runSN {y : MethodName} {bytes cc : ByteArray} {maxL nL mc ms n index : Nat} {ret : Option FieldType} {ws : List Cond} {rm : Room} {Pc : Array Value → State → Prop} {Qc : Array Value → State → Outcome → State → Prop} {XC : String → State → State → Prop} {free : Addr → Prop} {Ts : List Cond} {own host : String} {As rest : List Value} {g : JFrame}
    (S : CallFix p m c cc nL s args Ts own) (hM : vx_Met l y ws rm Pc Qc XC mc ms free) (cw : va_CN R s args own index y host bytes maxL ret ws rm mc ms n ∧ (Cond.static y).before args s = true ∧ True) (hp : PreS s H Pc As)
    (hg : g.method = m) (hn : As.length = n) (hsize : g.locals.size = nL) (hstack : g.stack = As.reverse ++ rest) (hW : 2 * g.monitorRoom + (rest.map fun v => v.category).sum ≤ 8) (hdg : decode cc g.pc = .ok (.invokestatic index, 3)) (hf : cells + mc ≤ R.cells ∧ slots + ms ≤ R.slots) :
    vx_Run p l e R s m args below meth c H locs cells slots mc ms g rest (Qc As.toArray) XC free := by
  obtain ⟨⟨⟨hrc, hrs, hfr, hlo, hws, hcw⟩, hcode, hini, hy, hlen, hl⟩, hx1, hx2⟩ := cw
  have hK : vx_Back l R p e below s args y 3 8 (PreOf R mc ms Pc) (PostOf Qc mc ms free) (vx_Post XC mc ms free) := vx_back (bytes := bytes) (maxL := maxL) (ret := ret) hM hp.1 hrc hrs hfr hlo hws hcw (fun a' U hW => word_at hW (Or.inl (by first | rfl | simp [Cond.onTables, Cond.keeps, Cond.steady])) hini)
  obtain ⟨hx, hb, hml, ho, -⟩ := S
  have hPc := hp.2
  intro T hT X
  rcases vx_callSN X hx (bytes := bytes) (maxL := maxL) (ret := ret) ho hl hx1 hini hcode hy hK hg (hsize.trans hml.symm) (argsL := As) (rest := rest) (fun sig h => hn.trans (hlen sig h)) hstack hW (by rw [hb]; exact hdg)
    (fun vm₁ hW₁ => ⟨hf.1, hf.2, hPc (T.setVm vm₁) hT hW₁⟩) with ⟨v, vm₁, ⟨U', l2, c2, s2⟩, hW₁, X', ⟨g', mk, t, L, e1, e2, hq, h1, hL, h2, h3⟩, st⟩ | ⟨q, vm₁, ⟨U', l2, c2, s2⟩, hW₁, X', ⟨g', mk, t, L, E, ce, e1, e2, hq, hce, hcv, hcl, h1, hL, h2, h3⟩, st⟩
  · dsimp only [Pt.U, Pt.locs, Pt.cells, Pt.slots] at X' e1 e2 h1 h2 h3 st
    subst h1; subst h2; subst h3
    exact Or.inl ⟨v, (T.setVm vm₁).calling g' mk As.toArray, t, U', L, hT, X', hL, e1, e2, hq, st⟩
  · dsimp only [Pt.U, Pt.locs, Pt.cells, Pt.slots] at X' e1 e2 h1 h2 h3 st hcl
    subst h1; subst h2; subst h3
    exact Or.inr ⟨q, (T.setVm vm₁).calling g' mk As.toArray, t, U', L, E, ce, hT, X', hL, e1, e2, hq, hce, hcv, vx_cls hW₁ hcl, st⟩
end
/-! ===== END ===== -/
/-! ===== BEGIN calls by an interface of methods that may throw (vx_callIF, vx_runF follow va_callIF, va_runF of this kit) ===== -/
section
variable {p : Program} {l : Launch} {e : Env} {R : Room} {s : State} {m : MethodId} {args : Array Value} {below : List Frame} {meth : Method} {c : Code} {H : Heap} {locs : List Loc} {cells slots : Nat} {Q : State → Prop}
variable {mc ms : Nat} {free : Addr → Prop} {A0 A1 : Nat → Prop} {H0 : Heap} {a : Array Value} {pc : Nat} {ls : Array Slot} {st0 rest : List Value}
def vx_Run5 (p : Program) (l : Launch) (e : Env) (R : Room) (s : State) (m : MethodId) (args : Array Value) (below : List Frame) (meth : Method) (c : Code) (H : Heap) (locs : List Loc) (cells slots mc ms : Nat) (g : JFrame) (rest : List Value) (Qa : State → Outcome → State → Prop) (XC : String → State → State → Prop) (free : Addr → Prop) : Prop :=
  ∀ T : State, T.heap = H → Stand p l e R s m args below meth c T locs cells slots →
    (∃ (v : Option Value) (st₀ t T' : State) (L : List Loc), st₀.heap = H ∧ Stand p l e R s m args below meth c T' (locs ++ L) (cells + mc) (slots + ms) ∧ (∀ q ∈ L, free q.base) ∧ T'.heap = t.heap ∧ T'.vm = t.vm ∧ Qa st₀ (.returned v) t ∧
      Goes p e below T g T' { g with pc := g.pc + 5, stack := v.toList ++ rest }) ∨
    (∃ (q : Addr) (st₀ t T' : State) (L : List Loc) (E : String) (ce : Cell), st₀.heap = H ∧ Stand p l e R s m args below meth c T' (locs ++ L) (cells + mc) (slots + ms) ∧ (∀ z ∈ L, free z.base) ∧ T'.heap = t.heap ∧ T'.vm = t.vm ∧ XC E st₀ t ∧ t.heap[q]? = some ce ∧ ce.vm = .none ∧ s.vm.findClass E = some ce.cls ∧
      Steps p.tables e below (T.setTop g) ((T'.setTop { g with stack := rest }).pushFrame (.throwing q)))
theorem vx_callIF {T : State} (X : Stand p l e R s m args below meth c T locs cells slots) (hexec : p.tables.exec = Jvm.exec) {own C : String} {index count : Nat} {x y : MethodName} {bytes : ByteArray} {maxL : Nat} {ret : Option FieldType}
    (hown : s.vm.findClass own = some m.cls) (hlink : (Cond.methodLink own index x).before args s = true) (hdecl : (Cond.declares x).before args s = true) (hface : (Cond.interfaceMethod x.cls x.cls x.name x.desc).before args s = true)
    (hsel : (Cond.selects C x y).before args s = true) (hinst : (Cond.instanceMethod y).before args s = true) (hpub : (Cond.publicMethod y).before args s = true) (hunh : (Cond.unhidden C x.name x.desc).before args s = true)
    (hcast : (Cond.castable C x.cls).before args s = true) (hcode : (Cond.code y bytes maxL ret).before args s = true) (hx : x.cls ≠ "java/lang/invoke/MethodHandle" ∧ x.cls ≠ "java/lang/invoke/VarHandle")
    {W9 : Nat} {Pre : Pt → Array Value → Prop} {Post : Pt → Array Value → Option Value → Pt → Prop} {PostX : Pt → Array Value → Addr → Pt → Prop} (hK : vx_Back l R p e below s args y 5 W9 Pre Post PostX)
    {b : Addr} {cellB : Cell} {kB : Class} (hcell : T.heap[b]? = some cellB) (hobj : cellB.vm.isStatics = false) (hcls : s.vm.findClass C = some cellB.cls) (hkB : s.vm.classes[cellB.cls]? = some kB)
    {g : JFrame} (hg : g.method = m) (hsize : g.locals.size = c.maxLocals) {argsL rest : List Value} (hlen : ∀ sig, parseMethodDescriptor x.desc = some sig → argsL.length = sig.parameters.length)
    (hstack : g.stack = argsL.reverse ++ .ref b :: rest) (hW : 2 * g.monitorRoom + (rest.map fun v => v.category).sum ≤ W9) (hdg : decode c.code g.pc = .ok (.invokeinterface index count, 5))
    (hpre : ∀ vm₁, s.WarmedH vm₁ → Pre ⟨T.setVm vm₁, locs, cells, slots⟩ (Value.ref b :: argsL).toArray) :
    (∃ (v : Option Value) (vm₁ : Vm) (B : Pt), s.WarmedH vm₁ ∧ Stand p l e R s m args below meth c B.U B.locs B.cells B.slots ∧ Post ⟨T.setVm vm₁, locs, cells, slots⟩ (Value.ref b :: argsL).toArray v B ∧
      ∀ target, Steps p.tables e below (B.U.setTop { g with pc := g.pc + 5, stack := v.toList ++ rest }) target → Steps p.tables e below (T.setTop g) target) ∨
    (∃ (q : Addr) (vm₁ : Vm) (B : Pt), s.WarmedH vm₁ ∧ Stand p l e R s m args below meth c B.U B.locs B.cells B.slots ∧ PostX ⟨T.setVm vm₁, locs, cells, slots⟩ (Value.ref b :: argsL).toArray q B ∧
      Steps p.tables e below (T.setTop g) ((B.U.setTop { g with stack := rest }).pushFrame (.throwing q))) := by
  obtain ⟨r0, r, hn, hrm, hstR, hsigR⟩ := Cond.declares_spec hdecl
  obtain ⟨cL, kL, r1, hcL, hkL, hiL, hfoundL, hn1⟩ := Cond.interfaceMethod_spec hface
  cases hn.symm.trans hn1
  have hr0cls : r0.cls = cL := Option.some.inj ((findClass_of_methodNamed hn).symm.trans hcL)
  obtain ⟨hnameR, hdescR⟩ := name_of_methodNamed hn hrm
  obtain ⟨mk, methM, hnamed, hmethM, -, habM⟩ := Cond.instanceMethod_spec hinst
  obtain ⟨c2, r2, m2, q1, q2, q3, q4, -⟩ := Cond.selects_spec hsel
  cases hcls.symm.trans q1
  cases hfoundL.symm.trans q2
  cases hnamed.symm.trans q3
  have hselP : selectMethod e.platform s.vm cellB.cls r0 = .method mk := by rw [Launch.admits_selectMethod X.admits]; exact q4
  have hpubM : hasFlag methM.accessFlags Acc.public_ = true := Cond.publicMethod_spec hnamed hmethM hpub
  have hway : ((cellB.cls :: s.vm.superclasses cellB.cls).any fun k => (declaredIn s.vm r.name r.desc k).any fun (_, z) => z.isPrivate || z.isStatic) = false := by
    rw [hnameR, hdescR]; exact Cond.unhidden_spec hcls hunh
  obtain ⟨c3, t3, w1, w2, w3⟩ := Cond.castable_spec hcast
  cases hcls.symm.trans w1
  cases hcL.symm.trans w2
  obtain ⟨vm₁, X₁, hstep₁⟩ := X.invokeinterface hexec hown hlink hn hrm hstR (by rw [hr0cls]; exact hkL) hiL hx (a := b) (cell := cellB) (kcell := kB) hcell
    (fun z h => by rw [h] at hobj; cases hobj) hkB (by rw [hr0cls]; exact w3) hselP hmethM hway hpubM habM (g := g) hg (argsL := argsL) (rest := rest) (hlen _ hsigR) hstack hdg
  rcases hK m meth c ⟨T.setVm vm₁, locs, cells, slots⟩ { g with stack := rest } (.invokeinterface index count) mk (Value.ref b :: argsL).toArray X₁ hg hsize hdg hW (X₁.named hnamed) (hpre vm₁ X₁.warmed) with ⟨v, B, X', hpost, hsteps⟩ | ⟨q, B, X', hpost, hsteps⟩
  · exact Or.inl ⟨v, vm₁, B, X₁.warmed, X', hpost, fun target h => hstep₁ _ fun acts => by rw [doInvoke_state]; exact hsteps.trans h⟩
  · exact Or.inr ⟨q, vm₁, B, X₁.warmed, X', hpost, hstep₁ _ fun acts => by rw [doInvoke_state]; exact hsteps⟩
theorem vx_runF {x y : MethodName} {bytes cc : ByteArray} {maxL nL mc ms n index count : Nat} {ret : Option FieldType} {ws : List Cond} {rm : Room} {Pc : Array Value → State → Prop} {Qc : Array Value → State → Outcome → State → Prop} {XC : String → State → State → Prop} {free : Addr → Prop} {Ts : List Cond} {own C : String} {cC : ClassId} {b : Addr} {As rest : List Value} {g : JFrame}
    (hat : ClassAt s C cC) (S : CallFix p m c cc nL s args Ts own) (hM : vx_Met l y ws rm Pc Qc XC mc ms free) (cw : va_CI R s args own C index x y bytes maxL ret ws rm mc ms n) (hp : PreV s H C b Pc As)
    (hg : g.method = m) (hn : As.length = n) (hsize : g.locals.size = nL) (hstack : g.stack = As.reverse ++ .ref b :: rest) (hW : 2 * g.monitorRoom + (rest.map fun v => v.category).sum ≤ 8) (hdg : decode cc g.pc = .ok (.invokeinterface index count, 5)) (hf : cells + mc ≤ R.cells ∧ slots + ms ≤ R.slots) :
    vx_Run5 p l e R s m args below meth c H locs cells slots mc ms g rest (Qc (Value.ref b :: As).toArray) XC free := by
  obtain ⟨hrc, hrs, hfr, hlo, hws, hcw⟩ := cw.back
  have hini := cw.init
  have hK : vx_Back l R p e below s args y 5 8 (PreOf R mc ms Pc) (PostOf Qc mc ms free) (vx_Post XC mc ms free) := vx_back (bytes := bytes) (maxL := maxL) (ret := ret) hM hp.1 hrc hrs hfr hlo hws hcw (fun a' U hW => word_at hW (Or.inl (by first | rfl | simp [Cond.onTables, Cond.keeps, Cond.steady])) hini)
  obtain ⟨hx, hb, hml, ho, -⟩ := S
  obtain ⟨-, ⟨cellB, hcB, hoB, hclB⟩, hPc⟩ := hp
  obtain ⟨hfc, kB, hkB, -⟩ := hat
  cases hfc.symm.trans hclB
  intro T hT X
  rcases vx_callIF X hx (C := C) (bytes := bytes) (maxL := maxL) (ret := ret) ho cw.link cw.decl cw.face cw.sel cw.inst cw.pub cw.unh cw.cast cw.code cw.notMH hK (by rw [hT]; exact hcB) hoB hclB hkB hg (hsize.trans hml.symm) (argsL := As) (rest := rest) (fun sig h => hn.trans (cw.len sig h)) hstack hW (by rw [hb]; exact hdg)
    (fun vm₁ hW₁ => ⟨hf.1, hf.2, hPc (T.setVm vm₁) hT hW₁⟩) with ⟨v, vm₁, ⟨U', l2, c2, s2⟩, hW₁, X', ⟨g', mk, t, L, e1, e2, hq, h1, hL, h2, h3⟩, st⟩ | ⟨q, vm₁, ⟨U', l2, c2, s2⟩, hW₁, X', ⟨g', mk, t, L, E, ce, e1, e2, hq, hce, hcv, hcl, h1, hL, h2, h3⟩, st⟩
  · dsimp only [Pt.U, Pt.locs, Pt.cells, Pt.slots] at X' e1 e2 h1 h2 h3 st
    subst h1; subst h2; subst h3
    exact Or.inl ⟨v, (T.setVm vm₁).calling g' mk (Value.ref b :: As).toArray, t, U', L, hT, X', hL, e1, e2, hq, st⟩
  · dsimp only [Pt.U, Pt.locs, Pt.cells, Pt.slots] at X' e1 e2 h1 h2 h3 st hcl
    subst h1; subst h2; subst h3
    exact Or.inr ⟨q, (T.setVm vm₁).calling g' mk (Value.ref b :: As).toArray, t, U', L, E, ce, hT, X', hL, e1, e2, hq, hce, hcv, vx_cls hW₁ hcl, st⟩
theorem vx_callFv {S SX : Type} {post : S → Prop} {px : SX → Prop} {B : S → State → Prop} {BX : String → SX → State → Prop} {AX : Nat → Prop} (hr : vx_Run5 p l e R s m args below meth c H locs cells slots mc ms (F0 m pc ls st0) rest (va_Qv post B A1 a) (vx_X px BX AX) free) (hS : va_S A0 H0 H locs) (hA : ∀ q, q < H.size → A1 q → A0 q) (hf : ∀ q, free q → A0 q) (hAX : ∀ q, q < H.size → AX q → A0 q)
    (kx : ∀ (E : String) (ce : Cell) (q9 : Addr) (u : SX) (t : State) (H1 : Heap) (locs1 : List Loc), t.heap = H1 → s.vm.Alike t.vm → px u → BX E u t → H.size ≤ H1.size → (∀ q : Nat, q < H.size → ¬ AX q → H1[q]? = H[q]?) → va_S A0 H0 H1 locs1 → H1[q9]? = some ce → ce.vm = .none → s.vm.findClass E = some ce.cls → vx_W p l e R s m args below meth c H1 locs1 (cells + mc) (slots + ms) Q (F0 m pc ls rest) q9)
    (kk : ∀ (u : S) (t : State) (H1 : Heap) (locs1 : List Loc), t.heap = H1 → s.vm.Alike t.vm → post u → B u t → H.size ≤ H1.size → (∀ q : Nat, q < H.size → ¬ A1 q → H1[q]? = H[q]?) → va_S A0 H0 H1 locs1 → W p l e R s m args below meth c H1 locs1 (cells + mc) (slots + ms) Q (F0 m (pc + 5) ls (rest))) : W p l e R s m args below meth c H locs cells slots Q (F0 m pc ls st0) := by
  intro T hT X
  rcases hr T hT X with ⟨v, st₀, t, T', L, h0, X', hL, e1, e2, ⟨⟨u, hv, hp, hb⟩, hF⟩, st⟩ | ⟨q, st₀, t, T', L, E, ce, h0, X', hL, e1, e2, ⟨u, hp, hb, hF⟩, hce, hcv, hcl, st⟩
  · cases hv
    obtain ⟨k1, k2, k3⟩ := vx_keep h0 e1 hS hA hf hL hF
    obtain ⟨t2, a1, b1⟩ := kk u t T'.heap (locs ++ L) e1.symm (by rw [← e2]; exact X'.warmed.alike) hp hb k1 k2 k3 T' rfl X'
    exact ⟨t2, st t2 a1, b1⟩
  · obtain ⟨k1, k2, k3⟩ := vx_keep h0 e1 hS hAX hf hL hF
    obtain ⟨t2, a1, b1⟩ := kx E ce q u t T'.heap (locs ++ L) e1.symm (by rw [← e2]; exact X'.warmed.alike) hp hb k1 k2 k3 (by rw [e1]; exact hce) hcv hcl T' rfl X'
    exact ⟨t2, st.trans a1, b1⟩
theorem vx_callFi {S SX : Type} {post : Int32 → S → Prop} {px : SX → Prop} {B : S → State → Prop} {BX : String → SX → State → Prop} {AX : Nat → Prop} (hr : vx_Run5 p l e R s m args below meth c H locs cells slots mc ms (F0 m pc ls st0) rest (va_Qi post B A1 a) (vx_X px BX AX) free) (hS : va_S A0 H0 H locs) (hA : ∀ q, q < H.size → A1 q → A0 q) (hf : ∀ q, free q → A0 q) (hAX : ∀ q, q < H.size → AX q → A0 q)
    (kx : ∀ (E : String) (ce : Cell) (q9 : Addr) (u : SX) (t : State) (H1 : Heap) (locs1 : List Loc), t.heap = H1 → s.vm.Alike t.vm → px u → BX E u t → H.size ≤ H1.size → (∀ q : Nat, q < H.size → ¬ AX q → H1[q]? = H[q]?) → va_S A0 H0 H1 locs1 → H1[q9]? = some ce → ce.vm = .none → s.vm.findClass E = some ce.cls → vx_W p l e R s m args below meth c H1 locs1 (cells + mc) (slots + ms) Q (F0 m pc ls rest) q9)
    (kk : ∀ (r : Int32) (u : S) (t : State) (H1 : Heap) (locs1 : List Loc), t.heap = H1 → s.vm.Alike t.vm → post r u → B u t → H.size ≤ H1.size → (∀ q : Nat, q < H.size → ¬ A1 q → H1[q]? = H[q]?) → va_S A0 H0 H1 locs1 → W p l e R s m args below meth c H1 locs1 (cells + mc) (slots + ms) Q (F0 m (pc + 5) ls (.int r :: rest))) : W p l e R s m args below meth c H locs cells slots Q (F0 m pc ls st0) := by
  intro T hT X
  rcases hr T hT X with ⟨v, st₀, t, T', L, h0, X', hL, e1, e2, ⟨⟨r, u, hv, hp, hb⟩, hF⟩, st⟩ | ⟨q, st₀, t, T', L, E, ce, h0, X', hL, e1, e2, ⟨u, hp, hb, hF⟩, hce, hcv, hcl, st⟩
  · cases hv
    obtain ⟨k1, k2, k3⟩ := vx_keep h0 e1 hS hA hf hL hF
    obtain ⟨t2, a1, b1⟩ := kk r u t T'.heap (locs ++ L) e1.symm (by rw [← e2]; exact X'.warmed.alike) hp hb k1 k2 k3 T' rfl X'
    exact ⟨t2, st t2 a1, b1⟩
  · obtain ⟨k1, k2, k3⟩ := vx_keep h0 e1 hS hAX hf hL hF
    obtain ⟨t2, a1, b1⟩ := kx E ce q u t T'.heap (locs ++ L) e1.symm (by rw [← e2]; exact X'.warmed.alike) hp hb k1 k2 k3 (by rw [e1]; exact hce) hcv hcl T' rfl X'
    exact ⟨t2, st.trans a1, b1⟩
theorem vx_callFl {S SX : Type} {post : Int64 → S → Prop} {px : SX → Prop} {B : S → State → Prop} {BX : String → SX → State → Prop} {AX : Nat → Prop} (hr : vx_Run5 p l e R s m args below meth c H locs cells slots mc ms (F0 m pc ls st0) rest (va_Ql post B A1 a) (vx_X px BX AX) free) (hS : va_S A0 H0 H locs) (hA : ∀ q, q < H.size → A1 q → A0 q) (hf : ∀ q, free q → A0 q) (hAX : ∀ q, q < H.size → AX q → A0 q)
    (kx : ∀ (E : String) (ce : Cell) (q9 : Addr) (u : SX) (t : State) (H1 : Heap) (locs1 : List Loc), t.heap = H1 → s.vm.Alike t.vm → px u → BX E u t → H.size ≤ H1.size → (∀ q : Nat, q < H.size → ¬ AX q → H1[q]? = H[q]?) → va_S A0 H0 H1 locs1 → H1[q9]? = some ce → ce.vm = .none → s.vm.findClass E = some ce.cls → vx_W p l e R s m args below meth c H1 locs1 (cells + mc) (slots + ms) Q (F0 m pc ls rest) q9)
    (kk : ∀ (r : Int64) (u : S) (t : State) (H1 : Heap) (locs1 : List Loc), t.heap = H1 → s.vm.Alike t.vm → post r u → B u t → H.size ≤ H1.size → (∀ q : Nat, q < H.size → ¬ A1 q → H1[q]? = H[q]?) → va_S A0 H0 H1 locs1 → W p l e R s m args below meth c H1 locs1 (cells + mc) (slots + ms) Q (F0 m (pc + 5) ls (.long r :: rest))) : W p l e R s m args below meth c H locs cells slots Q (F0 m pc ls st0) := by
  intro T hT X
  rcases hr T hT X with ⟨v, st₀, t, T', L, h0, X', hL, e1, e2, ⟨⟨r, u, hv, hp, hb⟩, hF⟩, st⟩ | ⟨q, st₀, t, T', L, E, ce, h0, X', hL, e1, e2, ⟨u, hp, hb, hF⟩, hce, hcv, hcl, st⟩
  · cases hv
    obtain ⟨k1, k2, k3⟩ := vx_keep h0 e1 hS hA hf hL hF
    obtain ⟨t2, a1, b1⟩ := kk r u t T'.heap (locs ++ L) e1.symm (by rw [← e2]; exact X'.warmed.alike) hp hb k1 k2 k3 T' rfl X'
    exact ⟨t2, st t2 a1, b1⟩
  · obtain ⟨k1, k2, k3⟩ := vx_keep h0 e1 hS hAX hf hL hF
    obtain ⟨t2, a1, b1⟩ := kx E ce q u t T'.heap (locs ++ L) e1.symm (by rw [← e2]; exact X'.warmed.alike) hp hb k1 k2 k3 (by rw [e1]; exact hce) hcv hcl T' rfl X'
    exact ⟨t2, st.trans a1, b1⟩
theorem vx_callFf {S SX : Type} {post : UInt32 → S → Prop} {px : SX → Prop} {B : S → State → Prop} {BX : String → SX → State → Prop} {AX : Nat → Prop} (hr : vx_Run5 p l e R s m args below meth c H locs cells slots mc ms (F0 m pc ls st0) rest (va_Qf post B A1 a) (vx_X px BX AX) free) (hS : va_S A0 H0 H locs) (hA : ∀ q, q < H.size → A1 q → A0 q) (hf : ∀ q, free q → A0 q) (hAX : ∀ q, q < H.size → AX q → A0 q)
    (kx : ∀ (E : String) (ce : Cell) (q9 : Addr) (u : SX) (t : State) (H1 : Heap) (locs1 : List Loc), t.heap = H1 → s.vm.Alike t.vm → px u → BX E u t → H.size ≤ H1.size → (∀ q : Nat, q < H.size → ¬ AX q → H1[q]? = H[q]?) → va_S A0 H0 H1 locs1 → H1[q9]? = some ce → ce.vm = .none → s.vm.findClass E = some ce.cls → vx_W p l e R s m args below meth c H1 locs1 (cells + mc) (slots + ms) Q (F0 m pc ls rest) q9)
    (kk : ∀ (r : UInt32) (u : S) (t : State) (H1 : Heap) (locs1 : List Loc), t.heap = H1 → s.vm.Alike t.vm → post r u → B u t → H.size ≤ H1.size → (∀ q : Nat, q < H.size → ¬ A1 q → H1[q]? = H[q]?) → va_S A0 H0 H1 locs1 → W p l e R s m args below meth c H1 locs1 (cells + mc) (slots + ms) Q (F0 m (pc + 5) ls (.float r :: rest))) : W p l e R s m args below meth c H locs cells slots Q (F0 m pc ls st0) := by
  intro T hT X
  rcases hr T hT X with ⟨v, st₀, t, T', L, h0, X', hL, e1, e2, ⟨⟨r, u, hv, hp, hb⟩, hF⟩, st⟩ | ⟨q, st₀, t, T', L, E, ce, h0, X', hL, e1, e2, ⟨u, hp, hb, hF⟩, hce, hcv, hcl, st⟩
  · cases hv
    obtain ⟨k1, k2, k3⟩ := vx_keep h0 e1 hS hA hf hL hF
    obtain ⟨t2, a1, b1⟩ := kk r u t T'.heap (locs ++ L) e1.symm (by rw [← e2]; exact X'.warmed.alike) hp hb k1 k2 k3 T' rfl X'
    exact ⟨t2, st t2 a1, b1⟩
  · obtain ⟨k1, k2, k3⟩ := vx_keep h0 e1 hS hAX hf hL hF
    obtain ⟨t2, a1, b1⟩ := kx E ce q u t T'.heap (locs ++ L) e1.symm (by rw [← e2]; exact X'.warmed.alike) hp hb k1 k2 k3 (by rw [e1]; exact hce) hcv hcl T' rfl X'
    exact ⟨t2, st.trans a1, b1⟩
theorem vx_callFd {S SX : Type} {post : UInt64 → S → Prop} {px : SX → Prop} {B : S → State → Prop} {BX : String → SX → State → Prop} {AX : Nat → Prop} (hr : vx_Run5 p l e R s m args below meth c H locs cells slots mc ms (F0 m pc ls st0) rest (va_Qd post B A1 a) (vx_X px BX AX) free) (hS : va_S A0 H0 H locs) (hA : ∀ q, q < H.size → A1 q → A0 q) (hf : ∀ q, free q → A0 q) (hAX : ∀ q, q < H.size → AX q → A0 q)
    (kx : ∀ (E : String) (ce : Cell) (q9 : Addr) (u : SX) (t : State) (H1 : Heap) (locs1 : List Loc), t.heap = H1 → s.vm.Alike t.vm → px u → BX E u t → H.size ≤ H1.size → (∀ q : Nat, q < H.size → ¬ AX q → H1[q]? = H[q]?) → va_S A0 H0 H1 locs1 → H1[q9]? = some ce → ce.vm = .none → s.vm.findClass E = some ce.cls → vx_W p l e R s m args below meth c H1 locs1 (cells + mc) (slots + ms) Q (F0 m pc ls rest) q9)
    (kk : ∀ (r : UInt64) (u : S) (t : State) (H1 : Heap) (locs1 : List Loc), t.heap = H1 → s.vm.Alike t.vm → post r u → B u t → H.size ≤ H1.size → (∀ q : Nat, q < H.size → ¬ A1 q → H1[q]? = H[q]?) → va_S A0 H0 H1 locs1 → W p l e R s m args below meth c H1 locs1 (cells + mc) (slots + ms) Q (F0 m (pc + 5) ls (.double r :: rest))) : W p l e R s m args below meth c H locs cells slots Q (F0 m pc ls st0) := by
  intro T hT X
  rcases hr T hT X with ⟨v, st₀, t, T', L, h0, X', hL, e1, e2, ⟨⟨r, u, hv, hp, hb⟩, hF⟩, st⟩ | ⟨q, st₀, t, T', L, E, ce, h0, X', hL, e1, e2, ⟨u, hp, hb, hF⟩, hce, hcv, hcl, st⟩
  · cases hv
    obtain ⟨k1, k2, k3⟩ := vx_keep h0 e1 hS hA hf hL hF
    obtain ⟨t2, a1, b1⟩ := kk r u t T'.heap (locs ++ L) e1.symm (by rw [← e2]; exact X'.warmed.alike) hp hb k1 k2 k3 T' rfl X'
    exact ⟨t2, st t2 a1, b1⟩
  · obtain ⟨k1, k2, k3⟩ := vx_keep h0 e1 hS hAX hf hL hF
    obtain ⟨t2, a1, b1⟩ := kx E ce q u t T'.heap (locs ++ L) e1.symm (by rw [← e2]; exact X'.warmed.alike) hp hb k1 k2 k3 (by rw [e1]; exact hce) hcv hcl T' rfl X'
    exact ⟨t2, st.trans a1, b1⟩
end
/-! ===== END ===== -/
/-! ===== BEGIN by an interface, a method with a table of its own that may throw (follows va_callIFW, va_runFW) ===== -/
section
variable {p : Program} {l : Launch} {e : Env} {R : Room} {s : State} {m : MethodId} {args : Array Value} {below : List Frame} {meth : Method} {c : Code} {H : Heap} {locs : List Loc} {cells slots : Nat}
theorem vx_callIFW {T : State} (X : Stand p l e R s m args below meth c T locs cells slots) (hexec : p.tables.exec = Jvm.exec) {own C : String} {index count : Nat} {x y : MethodName} {bytes : ByteArray} {maxL : Nat} {ret : Option FieldType} {hh : List (Nat × Nat × Nat × Nat)}
    (hown : s.vm.findClass own = some m.cls) (hlink : (Cond.methodLink own index x).before args s = true) (hdecl : (Cond.declares x).before args s = true) (hface : (Cond.interfaceMethod x.cls x.cls x.name x.desc).before args s = true)
    (hsel : (Cond.selects C x y).before args s = true) (hinst : (Cond.instanceMethod y).before args s = true) (hpub : (Cond.publicMethod y).before args s = true) (hunh : (Cond.unhidden C x.name x.desc).before args s = true)
    (hcast : (Cond.castable C x.cls).before args s = true) (hcode : (Cond.codeWith y bytes maxL ret hh).before args s = true) (hx : x.cls ≠ "java/lang/invoke/MethodHandle" ∧ x.cls ≠ "java/lang/invoke/VarHandle")
    {W : Nat} {Pre : Pt → Array Value → Prop} {Post : Pt → Array Value → Option Value → Pt → Prop} {PostX : Pt → Array Value → Addr → Pt → Prop} (hK : vx_Back l R p e below s args y 5 W Pre Post PostX)
    {b : Addr} {cellB : Cell} {kB : Class} (hcell : T.heap[b]? = some cellB) (hobj : cellB.vm.isStatics = false) (hcls : s.vm.findClass C = some cellB.cls) (hkB : s.vm.classes[cellB.cls]? = some kB)
    {g : JFrame} (hg : g.method = m) (hsize : g.locals.size = c.maxLocals) {argsL rest : List Value} (hlen : ∀ sig, parseMethodDescriptor x.desc = some sig → argsL.length = sig.parameters.length)
    (hstack : g.stack = argsL.reverse ++ .ref b :: rest) (hW : 2 * g.monitorRoom + (rest.map fun v => v.category).sum ≤ W) (hdg : decode c.code g.pc = .ok (.invokeinterface index count, 5))
    (hpre : ∀ vm₁, s.WarmedH vm₁ → Pre ⟨T.setVm vm₁, locs, cells, slots⟩ (Value.ref b :: argsL).toArray) :
    (∃ (v : Option Value) (vm₁ : Vm) (B : Pt), s.WarmedH vm₁ ∧ Stand p l e R s m args below meth c B.U B.locs B.cells B.slots ∧ Post ⟨T.setVm vm₁, locs, cells, slots⟩ (Value.ref b :: argsL).toArray v B ∧
      ∀ target, Steps p.tables e below (B.U.setTop { g with pc := g.pc + 5, stack := v.toList ++ rest }) target → Steps p.tables e below (T.setTop g) target) ∨
    (∃ (q : Addr) (vm₁ : Vm) (B : Pt), s.WarmedH vm₁ ∧ Stand p l e R s m args below meth c B.U B.locs B.cells B.slots ∧ PostX ⟨T.setVm vm₁, locs, cells, slots⟩ (Value.ref b :: argsL).toArray q B ∧
      Steps p.tables e below (T.setTop g) ((B.U.setTop { g with stack := rest }).pushFrame (.throwing q))) := by
  obtain ⟨r0, r, hn, hrm, hstR, hsigR⟩ := Cond.declares_spec hdecl
  obtain ⟨cL, kL, r1, hcL, hkL, hiL, hfoundL, hn1⟩ := Cond.interfaceMethod_spec hface
  cases hn.symm.trans hn1
  have hr0cls : r0.cls = cL := Option.some.inj ((findClass_of_methodNamed hn).symm.trans hcL)
  obtain ⟨hnameR, hdescR⟩ := name_of_methodNamed hn hrm
  obtain ⟨mk, methM, hnamed, hmethM, -, habM⟩ := Cond.instanceMethod_spec hinst
  obtain ⟨c2, r2, m2, q1, q2, q3, q4, -⟩ := Cond.selects_spec hsel
  cases hcls.symm.trans q1
  cases hfoundL.symm.trans q2
  cases hnamed.symm.trans q3
  have hselP : selectMethod e.platform s.vm cellB.cls r0 = .method mk := by rw [Launch.admits_selectMethod X.admits]; exact q4
  have hpubM : hasFlag methM.accessFlags Acc.public_ = true := Cond.publicMethod_spec hnamed hmethM hpub
  have hway : ((cellB.cls :: s.vm.superclasses cellB.cls).any fun k => (declaredIn s.vm r.name r.desc k).any fun (_, z) => z.isPrivate || z.isStatic) = false := by
    rw [hnameR, hdescR]; exact Cond.unhidden_spec hcls hunh
  obtain ⟨c3, t3, w1, w2, w3⟩ := Cond.castable_spec hcast
  cases hcls.symm.trans w1
  cases hcL.symm.trans w2
  obtain ⟨vm₁, X₁, hstep₁⟩ := X.invokeinterface hexec hown hlink hn hrm hstR (by rw [hr0cls]; exact hkL) hiL hx (a := b) (cell := cellB) (kcell := kB) hcell
    (fun z h => by rw [h] at hobj; cases hobj) hkB (by rw [hr0cls]; exact w3) hselP hmethM hway hpubM habM (g := g) hg (argsL := argsL) (rest := rest) (hlen _ hsigR) hstack hdg
  rcases hK m meth c ⟨T.setVm vm₁, locs, cells, slots⟩ { g with stack := rest } (.invokeinterface index count) mk (Value.ref b :: argsL).toArray X₁ hg hsize hdg hW (X₁.named hnamed) (hpre vm₁ X₁.warmed) with ⟨v, B, X', hpost, hsteps⟩ | ⟨q, B, X', hpost, hsteps⟩
  · exact Or.inl ⟨v, vm₁, B, X₁.warmed, X', hpost, fun target h => hstep₁ _ fun acts => by rw [doInvoke_state]; exact hsteps.trans h⟩
  · exact Or.inr ⟨q, vm₁, B, X₁.warmed, X', hpost, hstep₁ _ fun acts => by rw [doInvoke_state]; exact hsteps⟩
theorem vx_runFW {x y : MethodName} {bytes cc : ByteArray} {maxL nL mc ms n index count : Nat} {ret : Option FieldType} {hh : List (Nat × Nat × Nat × Nat)} {ws : List Cond} {rm : Room} {Pc : Array Value → State → Prop} {Qc : Array Value → State → Outcome → State → Prop} {XC : String → State → State → Prop} {free : Addr → Prop} {Ts : List Cond} {own C : String} {cC : ClassId} {b : Addr} {As rest : List Value} {g : JFrame}
    (hat : ClassAt s C cC) (S : CallFix p m c cc nL s args Ts own) (hM : vx_Met l y ws rm Pc Qc XC mc ms free) (cw : va_CIW R s args own C index x y bytes maxL ret hh ws rm mc ms n) (hp : PreV s H C b Pc As)
    (hg : g.method = m) (hn : As.length = n) (hsize : g.locals.size = nL) (hstack : g.stack = As.reverse ++ .ref b :: rest) (hW : 2 * g.monitorRoom + (rest.map fun v => v.category).sum ≤ 8) (hdg : decode cc g.pc = .ok (.invokeinterface index count, 5)) (hf : cells + mc ≤ R.cells ∧ slots + ms ≤ R.slots) :
    vx_Run5 p l e R s m args below meth c H locs cells slots mc ms g rest (Qc (Value.ref b :: As).toArray) XC free := by
  obtain ⟨hrc, hrs, hfr, hlo, hws, hcw⟩ := cw.back
  have hini := cw.init
  have hK : vx_Back l R p e below s args y 5 8 (PreOf R mc ms Pc) (PostOf Qc mc ms free) (vx_Post XC mc ms free) := vx_backW (hh := hh) (bytes := bytes) (maxL := maxL) (ret := ret) hM hp.1 hrc hrs hfr hlo hws hcw (fun a' U hW => word_at hW (Or.inl (by first | rfl | simp [Cond.onTables, Cond.keeps, Cond.steady])) hini)
  obtain ⟨hx, hb, hml, ho, -⟩ := S
  obtain ⟨-, ⟨cellB, hcB, hoB, hclB⟩, hPc⟩ := hp
  obtain ⟨hfc, kB, hkB, -⟩ := hat
  cases hfc.symm.trans hclB
  intro T hT X
  rcases vx_callIFW X hx (C := C) (hh := hh) (bytes := bytes) (maxL := maxL) (ret := ret) ho cw.link cw.decl cw.face cw.sel cw.inst cw.pub cw.unh cw.cast cw.code cw.notMH hK (by rw [hT]; exact hcB) hoB hclB hkB hg (hsize.trans hml.symm) (argsL := As) (rest := rest) (fun sig h => hn.trans (cw.len sig h)) hstack hW (by rw [hb]; exact hdg)
    (fun vm₁ hW₁ => ⟨hf.1, hf.2, hPc (T.setVm vm₁) hT hW₁⟩) with ⟨v, vm₁, ⟨U', l2, c2, s2⟩, hW₁, X', ⟨g', mk, t, L, e1, e2, hq, h1, hL, h2, h3⟩, st⟩ | ⟨q, vm₁, ⟨U', l2, c2, s2⟩, hW₁, X', ⟨g', mk, t, L, E, ce, e1, e2, hq, hce, hcv, hcl, h1, hL, h2, h3⟩, st⟩
  · dsimp only [Pt.U, Pt.locs, Pt.cells, Pt.slots] at X' e1 e2 h1 h2 h3 st
    subst h1; subst h2; subst h3
    exact Or.inl ⟨v, (T.setVm vm₁).calling g' mk (Value.ref b :: As).toArray, t, U', L, hT, X', hL, e1, e2, hq, st⟩
  · dsimp only [Pt.U, Pt.locs, Pt.cells, Pt.slots] at X' e1 e2 h1 h2 h3 st hcl
    subst h1; subst h2; subst h3
    exact Or.inr ⟨q, (T.setVm vm₁).calling g' mk (Value.ref b :: As).toArray, t, U', L, E, ce, hT, X', hL, e1, e2, hq, hce, hcv, vx_cls hW₁ hcl, st⟩
end
/-! ===== END ===== -/
/-! ===== BEGIN .. of methods that hand back an object of the pool ===== -/
section
variable {p : Program} {l : Launch} {e : Env} {R : Room} {s : State} {m : MethodId} {args : Array Value} {below : List Frame} {meth : Method} {c : Code} {H : Heap} {locs : List Loc} {cells slots : Nat} {Q : State → Prop}
variable {mc ms : Nat} {free : Addr → Prop} {A0 A1 : Nat → Prop} {H0 : Heap} {a : Array Value} {pc : Nat} {ls : Array Slot} {st0 rest : List Value}
theorem vx_callq {S SX : Type} {post : Option Nat → S → Prop} {px : SX → Prop} {B : S → State → Prop} {BX : String → SX → State → Prop} {AX : Nat → Prop} (hr : vx_Run p l e R s m args below meth c H locs cells slots mc ms (F0 m pc ls st0) rest (va_Qq post B A1 a) (vx_X px BX AX) free) (hS : va_S A0 H0 H locs) (hA : ∀ q, q < H.size → A1 q → A0 q) (hf : ∀ q, free q → A0 q) (hAX : ∀ q, q < H.size → AX q → A0 q)
    (kx : ∀ (E : String) (ce : Cell) (q9 : Addr) (u : SX) (t : State) (H1 : Heap) (locs1 : List Loc), t.heap = H1 → s.vm.Alike t.vm → px u → BX E u t → H.size ≤ H1.size → (∀ q : Nat, q < H.size → ¬ AX q → H1[q]? = H[q]?) → va_S A0 H0 H1 locs1 → H1[q9]? = some ce → ce.vm = .none → s.vm.findClass E = some ce.cls → vx_W p l e R s m args below meth c H1 locs1 (cells + mc) (slots + ms) Q (F0 m pc ls rest) q9)
    (kk : ∀ (r : Option Nat) (u : S) (t : State) (H1 : Heap) (locs1 : List Loc), t.heap = H1 → s.vm.Alike t.vm → post r u → B u t → H.size ≤ H1.size → (∀ q : Nat, q < H.size → ¬ A1 q → H1[q]? = H[q]?) → va_S A0 H0 H1 locs1 → W p l e R s m args below meth c H1 locs1 (cells + mc) (slots + ms) Q (F0 m (pc + 3) ls (va_rf r :: rest))) : W p l e R s m args below meth c H locs cells slots Q (F0 m pc ls st0) := by
  intro T hT X
  rcases hr T hT X with ⟨v, st₀, t, T', L, h0, X', hL, e1, e2, ⟨⟨r, u, hv, hp, hb⟩, hF⟩, st⟩ | ⟨q, st₀, t, T', L, E, ce, h0, X', hL, e1, e2, ⟨u, hp, hb, hF⟩, hce, hcv, hcl, st⟩
  · cases hv
    obtain ⟨k1, k2, k3⟩ := vx_keep h0 e1 hS hA hf hL hF
    obtain ⟨t2, a1, b1⟩ := kk r u t T'.heap (locs ++ L) e1.symm (by rw [← e2]; exact X'.warmed.alike) hp hb k1 k2 k3 T' rfl X'
    exact ⟨t2, st t2 a1, b1⟩
  · obtain ⟨k1, k2, k3⟩ := vx_keep h0 e1 hS hAX hf hL hF
    obtain ⟨t2, a1, b1⟩ := kx E ce q u t T'.heap (locs ++ L) e1.symm (by rw [← e2]; exact X'.warmed.alike) hp hb k1 k2 k3 (by rw [e1]; exact hce) hcv hcl T' rfl X'
    exact ⟨t2, st.trans a1, b1⟩
end
/-! ===== END ===== -/
/-! ===== BEGIN .. a constant ===== -/
section
variable {p : Program} {l : Launch} {e : Env} {R : Room} {s : State} {m : MethodId} {args : Array Value} {below : List Frame} {meth : Method} {c : Code} {H : Heap} {locs : List Loc} {cells slots : Nat} {Q : State → Prop}
variable {mc ms : Nat} {free : Addr → Prop} {A0 A1 : Nat → Prop} {H0 : Heap} {a : Array Value} {pc : Nat} {ls : Array Slot} {st0 rest : List Value}
theorem vx_calle {ad : Nat → Nat} {S SX : Type} {post : Option Nat → S → Prop} {px : SX → Prop} {B : S → State → Prop} {BX : String → SX → State → Prop} {AX : Nat → Prop} (hr : vx_Run p l e R s m args below meth c H locs cells slots mc ms (F0 m pc ls st0) rest (va_Qe ad post B A1 a) (vx_X px BX AX) free) (hS : va_S A0 H0 H locs) (hA : ∀ q, q < H.size → A1 q → A0 q) (hf : ∀ q, free q → A0 q) (hAX : ∀ q, q < H.size → AX q → A0 q)
    (kx : ∀ (E : String) (ce : Cell) (q9 : Addr) (u : SX) (t : State) (H1 : Heap) (locs1 : List Loc), t.heap = H1 → s.vm.Alike t.vm → px u → BX E u t → H.size ≤ H1.size → (∀ q : Nat, q < H.size → ¬ AX q → H1[q]? = H[q]?) → va_S A0 H0 H1 locs1 → H1[q9]? = some ce → ce.vm = .none → s.vm.findClass E = some ce.cls → vx_W p l e R s m args below meth c H1 locs1 (cells + mc) (slots + ms) Q (F0 m pc ls rest) q9)
    (kk : ∀ (r : Option Nat) (u : S) (t : State) (H1 : Heap) (locs1 : List Loc), t.heap = H1 → s.vm.Alike t.vm → post r u → B u t → H.size ≤ H1.size → (∀ q : Nat, q < H.size → ¬ A1 q → H1[q]? = H[q]?) → va_S A0 H0 H1 locs1 → W p l e R s m args below meth c H1 locs1 (cells + mc) (slots + ms) Q (F0 m (pc + 3) ls (va_re ad r :: rest))) : W p l e R s m args below meth c H locs cells slots Q (F0 m pc ls st0) := by
  intro T hT X
  rcases hr T hT X with ⟨v, st₀, t, T', L, h0, X', hL, e1, e2, ⟨⟨r, u, hv, hp, hb⟩, hF⟩, st⟩ | ⟨q, st₀, t, T', L, E, ce, h0, X', hL, e1, e2, ⟨u, hp, hb, hF⟩, hce, hcv, hcl, st⟩
  · cases hv
    obtain ⟨k1, k2, k3⟩ := vx_keep h0 e1 hS hA hf hL hF
    obtain ⟨t2, a1, b1⟩ := kk r u t T'.heap (locs ++ L) e1.symm (by rw [← e2]; exact X'.warmed.alike) hp hb k1 k2 k3 T' rfl X'
    exact ⟨t2, st t2 a1, b1⟩
  · obtain ⟨k1, k2, k3⟩ := vx_keep h0 e1 hS hAX hf hL hF
    obtain ⟨t2, a1, b1⟩ := kx E ce q u t T'.heap (locs ++ L) e1.symm (by rw [← e2]; exact X'.warmed.alike) hp hb k1 k2 k3 (by rw [e1]; exact hce) hcv hcl T' rfl X'
    exact ⟨t2, st.trans a1, b1⟩
end
/-! ===== END ===== -/
/-! ===== BEGIN .. by an interface, an object ===== -/
section
variable {p : Program} {l : Launch} {e : Env} {R : Room} {s : State} {m : MethodId} {args : Array Value} {below : List Frame} {meth : Method} {c : Code} {H : Heap} {locs : List Loc} {cells slots : Nat} {Q : State → Prop}
variable {mc ms : Nat} {free : Addr → Prop} {A0 A1 : Nat → Prop} {H0 : Heap} {a : Array Value} {pc : Nat} {ls : Array Slot} {st0 rest : List Value}
theorem vx_callFq {S SX : Type} {post : Option Nat → S → Prop} {px : SX → Prop} {B : S → State → Prop} {BX : String → SX → State → Prop} {AX : Nat → Prop} (hr : vx_Run5 p l e R s m args below meth c H locs cells slots mc ms (F0 m pc ls st0) rest (va_Qq post B A1 a) (vx_X px BX AX) free) (hS : va_S A0 H0 H locs) (hA : ∀ q, q < H.size → A1 q → A0 q) (hf : ∀ q, free q → A0 q) (hAX : ∀ q, q < H.size → AX q → A0 q)
    (kx : ∀ (E : String) (ce : Cell) (q9 : Addr) (u : SX) (t : State) (H1 : Heap) (locs1 : List Loc), t.heap = H1 → s.vm.Alike t.vm → px u → BX E u t → H.size ≤ H1.size → (∀ q : Nat, q < H.size → ¬ AX q → H1[q]? = H[q]?) → va_S A0 H0 H1 locs1 → H1[q9]? = some ce → ce.vm = .none → s.vm.findClass E = some ce.cls → vx_W p l e R s m args below meth c H1 locs1 (cells + mc) (slots + ms) Q (F0 m pc ls rest) q9)
    (kk : ∀ (r : Option Nat) (u : S) (t : State) (H1 : Heap) (locs1 : List Loc), t.heap = H1 → s.vm.Alike t.vm → post r u → B u t → H.size ≤ H1.size → (∀ q : Nat, q < H.size → ¬ A1 q → H1[q]? = H[q]?) → va_S A0 H0 H1 locs1 → W p l e R s m args below meth c H1 locs1 (cells + mc) (slots + ms) Q (F0 m (pc + 5) ls (va_rf r :: rest))) : W p l e R s m args below meth c H locs cells slots Q (F0 m pc ls st0) := by
  intro T hT X
  rcases hr T hT X with ⟨v, st₀, t, T', L, h0, X', hL, e1, e2, ⟨⟨r, u, hv, hp, hb⟩, hF⟩, st⟩ | ⟨q, st₀, t, T', L, E, ce, h0, X', hL, e1, e2, ⟨u, hp, hb, hF⟩, hce, hcv, hcl, st⟩
  · cases hv
    obtain ⟨k1, k2, k3⟩ := vx_keep h0 e1 hS hA hf hL hF
    obtain ⟨t2, a1, b1⟩ := kk r u t T'.heap (locs ++ L) e1.symm (by rw [← e2]; exact X'.warmed.alike) hp hb k1 k2 k3 T' rfl X'
    exact ⟨t2, st t2 a1, b1⟩
  · obtain ⟨k1, k2, k3⟩ := vx_keep h0 e1 hS hAX hf hL hF
    obtain ⟨t2, a1, b1⟩ := kx E ce q u t T'.heap (locs ++ L) e1.symm (by rw [← e2]; exact X'.warmed.alike) hp hb k1 k2 k3 (by rw [e1]; exact hce) hcv hcl T' rfl X'
    exact ⟨t2, st.trans a1, b1⟩
end
/-! ===== END ===== -/
/-! ===== BEGIN .. by an interface, a constant ===== -/
section
variable {p : Program} {l : Launch} {e : Env} {R : Room} {s : State} {m : MethodId} {args : Array Value} {below : List Frame} {meth : Method} {c : Code} {H : Heap} {locs : List Loc} {cells slots : Nat} {Q : State → Prop}
variable {mc ms : Nat} {free : Addr → Prop} {A0 A1 : Nat → Prop} {H0 : Heap} {a : Array Value} {pc : Nat} {ls : Array Slot} {st0 rest : List Value}
theorem vx_callFe {ad : Nat → Nat} {S SX : Type} {post : Option Nat → S → Prop} {px : SX → Prop} {B : S → State → Prop} {BX : String → SX → State → Prop} {AX : Nat → Prop} (hr : vx_Run5 p l e R s m args below meth c H locs cells slots mc ms (F0 m pc ls st0) rest (va_Qe ad post B A1 a) (vx_X px BX AX) free) (hS : va_S A0 H0 H locs) (hA : ∀ q, q < H.size → A1 q → A0 q) (hf : ∀ q, free q → A0 q) (hAX : ∀ q, q < H.size → AX q → A0 q)
    (kx : ∀ (E : String) (ce : Cell) (q9 : Addr) (u : SX) (t : State) (H1 : Heap) (locs1 : List Loc), t.heap = H1 → s.vm.Alike t.vm → px u → BX E u t → H.size ≤ H1.size → (∀ q : Nat, q < H.size → ¬ AX q → H1[q]? = H[q]?) → va_S A0 H0 H1 locs1 → H1[q9]? = some ce → ce.vm = .none → s.vm.findClass E = some ce.cls → vx_W p l e R s m args below meth c H1 locs1 (cells + mc) (slots + ms) Q (F0 m pc ls rest) q9)
    (kk : ∀ (r : Option Nat) (u : S) (t : State) (H1 : Heap) (locs1 : List Loc), t.heap = H1 → s.vm.Alike t.vm → post r u → B u t → H.size ≤ H1.size → (∀ q : Nat, q < H.size → ¬ A1 q → H1[q]? = H[q]?) → va_S A0 H0 H1 locs1 → W p l e R s m args below meth c H1 locs1 (cells + mc) (slots + ms) Q (F0 m (pc + 5) ls (va_re ad r :: rest))) : W p l e R s m args below meth c H locs cells slots Q (F0 m pc ls st0) := by
  intro T hT X
  rcases hr T hT X with ⟨v, st₀, t, T', L, h0, X', hL, e1, e2, ⟨⟨r, u, hv, hp, hb⟩, hF⟩, st⟩ | ⟨q, st₀, t, T', L, E, ce, h0, X', hL, e1, e2, ⟨u, hp, hb, hF⟩, hce, hcv, hcl, st⟩
  · cases hv
    obtain ⟨k1, k2, k3⟩ := vx_keep h0 e1 hS hA hf hL hF
    obtain ⟨t2, a1, b1⟩ := kk r u t T'.heap (locs ++ L) e1.symm (by rw [← e2]; exact X'.warmed.alike) hp hb k1 k2 k3 T' rfl X'
    exact ⟨t2, st t2 a1, b1⟩
  · obtain ⟨k1, k2, k3⟩ := vx_keep h0 e1 hS hAX hf hL hF
    obtain ⟨t2, a1, b1⟩ := kx E ce q u t T'.heap (locs ++ L) e1.symm (by rw [← e2]; exact X'.warmed.alike) hp hb k1 k2 k3 (by rw [e1]; exact hce) hcv hcl T' rfl X'
    exact ⟨t2, st.trans a1, b1⟩
end
/-! ===== END ===== -/
/-! ===== BEGIN what the machine throws by itself: null at a field, at athrow ===== -/
section VXM2
variable {p : Program} {l : Launch} {e : Env} {R : Room} {s : State} {m : MethodId} {args : Array Value} {below : List Frame} {meth : Method} {c : Code} {H : Heap} {locs : List Loc} {cells slots : Nat}
variable {Q : State → Prop} {cc : ByteArray} {pc : Nat} {ls : Array Slot} {rest : List Value}
theorem vx_getfN {D cl tys} {own ref C : String} {T : u_T} {N ci index : Nat} {Ts : List Cond} (hexec : p.tables.exec = Jvm.exec) (hb : c.code = cc) (hts : ∀ w ∈ Ts, w.before args s = true) (hin : ∀ w ∈ u_ws C T N, w ∈ Ts) (hown : s.vm.findClass own = some m.cls) (hK : va_K D cl tys s) (hc : cl[ci]? = some (C, T, N)) (k : Nat) (hk : k < N) (hlink : (Cond.fieldLink own index ref (T k).2.1 (T k).2.2.1).before args s = true) (hsame : ∀ x, s.fieldFound? (T k).1 (T k).2.1 (T k).2.2.1 = some x → s.fieldFound? ref (T k).2.1 (T k).2.2.1 = some x) (hdg : decode cc pc = .ok (.getfield index, 3)) (kk : vx_NoteN p l e R s m args below meth c H locs cells slots Q (F0 m pc ls rest)) : W p l e R s m args below meth c H locs cells slots Q (F0 m pc ls (.null :: rest)) := by
  obtain ⟨hS, hfc, kC, hkC, -⟩ := hK.1 ci _ hc
  obtain ⟨cf, kf, fi, f, hi, -⟩ := hS k hk
  intro U hU X
  obtain ⟨vm', X1, st1⟩ := X.getfieldNull hexec hown hlink (hsame _ hi) (u_facts hfc hkC (u_lays hts hin hk) hi).1 (g := F0 m pc ls (.null :: rest)) rfl (rest := rest) rfl (by rw [hb]; exact hdg)
  obtain ⟨t, st, q⟩ := kk (U.setVm vm') hU X1
  exact ⟨t, st1 t st, q⟩
theorem vx_getfNN {D cl tys} {own ref C host : String} {T : u_T} {N ci index : Nat} {Ts : List Cond} (hexec : p.tables.exec = Jvm.exec) (hb : c.code = cc) (hts : ∀ w ∈ Ts, w.before args s = true) (hin : ∀ w ∈ u_ws C T N, w ∈ Ts) (hown : s.vm.findClass own = some m.cls) (hK : va_K D cl tys s) (hc : cl[ci]? = some (C, T, N)) (k : Nat) (hk : k < N) (hlink : (Cond.fieldLinkNest own index ref (T k).2.1 (T k).2.2.1 host).before args s = true) (hsame : ∀ x, s.fieldFound? (T k).1 (T k).2.1 (T k).2.2.1 = some x → s.fieldFound? ref (T k).2.1 (T k).2.2.1 = some x) (hdg : decode cc pc = .ok (.getfield index, 3)) (kk : vx_NoteN p l e R s m args below meth c H locs cells slots Q (F0 m pc ls rest)) : W p l e R s m args below meth c H locs cells slots Q (F0 m pc ls (.null :: rest)) := by
  obtain ⟨hS, hfc, kC, hkC, -⟩ := hK.1 ci _ hc
  obtain ⟨cf, kf, fi, f, hi, -⟩ := hS k hk
  intro U hU X
  obtain ⟨vm', X1, st1⟩ := X.getfieldNullNest hexec hown hlink (hsame _ hi) (u_facts hfc hkC (u_lays hts hin hk) hi).1 (g := F0 m pc ls (.null :: rest)) rfl (rest := rest) rfl (by rw [hb]; exact hdg)
  obtain ⟨t, st, q⟩ := kk (U.setVm vm') hU X1
  exact ⟨t, st1 t st, q⟩
theorem vx_putfN {D cl tys} {own ref C : String} {T : u_T} {N ci index : Nat} {Ts : List Cond} (hexec : p.tables.exec = Jvm.exec) (hb : c.code = cc) (hts : ∀ w ∈ Ts, w.before args s = true) (hin : ∀ w ∈ u_ws C T N, w ∈ Ts) (hown : s.vm.findClass own = some m.cls) (hK : va_K D cl tys s) (hc : cl[ci]? = some (C, T, N)) (k : Nat) (hk : k < N) (hlink : (Cond.fieldLink own index ref (T k).2.1 (T k).2.2.1).before args s = true) (hsame : ∀ x, s.fieldFound? (T k).1 (T k).2.1 (T k).2.2.1 = some x → s.fieldFound? ref (T k).2.1 (T k).2.2.1 = some x) (hfin : (T k).2.2.2 = false) {v : Value} (hdg : decode cc pc = .ok (.putfield index, 3)) (kk : vx_NoteN p l e R s m args below meth c H locs cells slots Q (F0 m pc ls rest)) : W p l e R s m args below meth c H locs cells slots Q (F0 m pc ls (v :: .null :: rest)) := by
  obtain ⟨hS, hfc, kC, hkC, -⟩ := hK.1 ci _ hc
  obtain ⟨cf, kf, fi, f, hi, -⟩ := hS k hk
  have hlay := hts _ (hin _ (u_in_lay hk))
  unfold u_lay at hlay
  rw [if_neg (by rw [hfin]; decide)] at hlay
  obtain ⟨c9, k9, cf9, kf9, fi9, f9, -, -, hi9, hst9, hnf9, -⟩ := Cond.lays_spec hlay
  cases hi.symm.trans hi9
  intro U hU X
  obtain ⟨vm', X1, st1⟩ := X.putfieldNull hexec hown hlink (hsame _ hi) hst9 hnf9 (g := F0 m pc ls (v :: .null :: rest)) rfl (v := v) (rest := rest) rfl (by rw [hb]; exact hdg)
  obtain ⟨t, st, q⟩ := kk (U.setVm vm') hU X1
  exact ⟨t, st1 t st, q⟩
theorem vx_putfNN {D cl tys} {own ref C host : String} {T : u_T} {N ci index : Nat} {Ts : List Cond} (hexec : p.tables.exec = Jvm.exec) (hb : c.code = cc) (hts : ∀ w ∈ Ts, w.before args s = true) (hin : ∀ w ∈ u_ws C T N, w ∈ Ts) (hown : s.vm.findClass own = some m.cls) (hK : va_K D cl tys s) (hc : cl[ci]? = some (C, T, N)) (k : Nat) (hk : k < N) (hlink : (Cond.fieldLinkNest own index ref (T k).2.1 (T k).2.2.1 host).before args s = true) (hsame : ∀ x, s.fieldFound? (T k).1 (T k).2.1 (T k).2.2.1 = some x → s.fieldFound? ref (T k).2.1 (T k).2.2.1 = some x) (hfin : (T k).2.2.2 = false) {v : Value} (hdg : decode cc pc = .ok (.putfield index, 3)) (kk : vx_NoteN p l e R s m args below meth c H locs cells slots Q (F0 m pc ls rest)) : W p l e R s m args below meth c H locs cells slots Q (F0 m pc ls (v :: .null :: rest)) := by
  obtain ⟨hS, hfc, kC, hkC, -⟩ := hK.1 ci _ hc
  obtain ⟨cf, kf, fi, f, hi, -⟩ := hS k hk
  have hlay := hts _ (hin _ (u_in_lay hk))
  unfold u_lay at hlay
  rw [if_neg (by rw [hfin]; decide)] at hlay
  obtain ⟨c9, k9, cf9, kf9, fi9, f9, -, -, hi9, hst9, hnf9, -⟩ := Cond.lays_spec hlay
  cases hi.symm.trans hi9
  intro U hU X
  obtain ⟨vm', X1, st1⟩ := X.putfieldNullNest hexec hown hlink (hsame _ hi) hst9 hnf9 (g := F0 m pc ls (v :: .null :: rest)) rfl (v := v) (rest := rest) rfl (by rw [hb]; exact hdg)
  obtain ⟨t, st, q⟩ := kk (U.setVm vm') hU X1
  exact ⟨t, st1 t st, q⟩
theorem vx_athrowN (hexec : p.tables.exec = Jvm.exec) (hb : c.code = cc) (hdg : decode cc pc = .ok (.athrow, 1)) (k : vx_NoteN p l e R s m args below meth c H locs cells slots Q (F0 m pc ls rest)) : W p l e R s m args below meth c H locs cells slots Q (F0 m pc ls (.null :: rest)) := by
  intro T hT X
  obtain ⟨t, st, q⟩ := k T hT X
  exact ⟨t, X.athrowNull hexec (g := F0 m pc ls (.null :: rest)) rfl (rest := rest) rfl (by rw [hb]; exact hdg) t st, q⟩
end VXM2
/-! ===== END ===== -/
theorem vr_outer (c : ClassId) (N h0 : Nat) : ∀ i : Nat, Jvm.Free.Multi.outerC c N h0 i = arrV c N (fun j => va_rf (if j < i then some (h0 + 1 + j) else none))
  | 0 => by
    show ({ cls := c, slots := Array.replicate N .null, vm := .none } : Cell) = _
    rw [arrV_new]
    refine congrArg (arrV c N) (funext fun j => ?_)
    simp [va_rf]
  | i + 1 => by
    show (Jvm.Free.Multi.outerC c N h0 i).setSlot i (.ref (h0 + 1 + i)) = _
    rw [vr_outer c N h0 i, arrV_store]
    refine congrArg (arrV c N) (funext fun j => ?_)
    by_cases e : j = i
    · subst e
      simp [updV, va_rf]
    · by_cases h : j < i
      · simp [updV, e, h, Nat.lt_succ_of_lt h]
      · simp [updV, e, h, show ¬ j < i + 1 by omega]
end
section
def RX0 : String := "PlanBranches$Branch"
def TX0 : u_T := fun k => match k with
  | 0 => ("PlanBranches$Branch", "number", "I", true)
  | 1 => ("PlanBranches$Branch", "from", "LPlanBranches$Branch;", true)
  | 2 => ("PlanBranches$Branch", "plan", "LPlanBranches$Plan;", true)
  | 3 => ("PlanBranches$Branch", "base", "LPlanBranches$Plan;", true)
  | 4 => ("PlanBranches$Branch", "history", "LPlanBranches$History;", true)
  | 5 => ("PlanBranches$Branch", "sides", "[I", true)
  | _ => ("PlanBranches$Branch", "budget", "I", false)
def tyX0 : Nat → FieldType := fun k => match k with
  | 0 => .int
  | 1 => .object "PlanBranches$Branch"
  | 2 => .object "PlanBranches$Plan"
  | 3 => .object "PlanBranches$Plan"
  | 4 => .object "PlanBranches$History"
  | 5 => .array .int
  | _ => .int
abbrev wsX00 : List Cond := u_ws RX0 TX0 7
theorem nmX0 : ∀ a, a < 7 → ∀ b, b < 7 → a ≠ b → (TX0 a).2.1 ≠ (TX0 b).2.1 := by decide +kernel
theorem tyX0_ok : ∀ k, k < 7 → parseFieldDescriptor (TX0 k).2.2.1 = some (tyX0 k) := by decide +kernel
abbrev cX0_init : ByteArray := prog_2_method_1_code
def yX0_init : MethodName := ⟨RX0, "<init>", "(ILPlanBranches$Branch;)V"⟩
abbrev cX0_startFrom : ByteArray := prog_2_method_2_code
def yX0_startFrom : MethodName := ⟨RX0, "startFrom", "(LPlanBranches$Plan;)V"⟩
def RX1 : String := "PlanBranches$Crews"
def TX1 : u_T := fun k => match k with
  | 0 => ("PlanBranches$Crews", "owners", "[I", true)
  | 1 => ("PlanBranches$Crews", "borrowers", "[[I", true)
  | _ => ("PlanBranches$Crews", "loanCount", "I", false)
def tyX1 : Nat → FieldType := fun k => match k with
  | 0 => .array .int
  | 1 => .array (.array .int)
  | _ => .int
abbrev wsX10 : List Cond := u_ws RX1 TX1 3
theorem nmX1 : ∀ a, a < 3 → ∀ b, b < 3 → a ≠ b → (TX1 a).2.1 ≠ (TX1 b).2.1 := by decide +kernel
theorem tyX1_ok : ∀ k, k < 3 → parseFieldDescriptor (TX1 k).2.2.1 = some (tyX1 k) := by decide +kernel
abbrev cX1_init : ByteArray := prog_3_method_1_code
def yX1_init : MethodName := ⟨RX1, "<init>", "()V"⟩
abbrev cX1_lendOut : ByteArray := prog_3_method_2_code
def yX1_lendOut : MethodName := ⟨RX1, "lendOut", "(IIII)V"⟩
abbrev cX1_heldBy : ByteArray := prog_3_method_3_code
def yX1_heldBy : MethodName := ⟨RX1, "heldBy", "(II)I"⟩
def RX2 : String := "PlanBranches$History"
def TX2 : u_T := fun k => match k with
  | 0 => ("PlanBranches$History", "changed", "[I", true)
  | 1 => ("PlanBranches$History", "lengths", "[I", true)
  | 2 => ("PlanBranches$History", "crews", "[I", true)
  | 3 => ("PlanBranches$History", "costs", "[I", true)
  | 4 => ("PlanBranches$History", "needs", "[I", true)
  | 5 => ("PlanBranches$History", "next", "I", false)
  | _ => ("PlanBranches$History", "size", "I", false)
def tyX2 : Nat → FieldType := fun k => match k with
  | 0 => .array .int
  | 1 => .array .int
  | 2 => .array .int
  | 3 => .array .int
  | 4 => .array .int
  | 5 => .int
  | _ => .int
abbrev wsX20 : List Cond := u_ws RX2 TX2 7
theorem nmX2 : ∀ a, a < 7 → ∀ b, b < 7 → a ≠ b → (TX2 a).2.1 ≠ (TX2 b).2.1 := by decide +kernel
theorem tyX2_ok : ∀ k, k < 7 → parseFieldDescriptor (TX2 k).2.2.1 = some (tyX2 k) := by decide +kernel
abbrev cX2_init : ByteArray := prog_4_method_1_code
def yX2_init : MethodName := ⟨RX2, "<init>", "()V"⟩
abbrev cX2_keep : ByteArray := prog_4_method_2_code
def yX2_keep : MethodName := ⟨RX2, "keep", "(LPlanBranches$Plan;I)V"⟩
abbrev cX2_restore : ByteArray := prog_4_method_3_code
def yX2_restore : MethodName := ⟨RX2, "restore", "(LPlanBranches$Plan;)V"⟩
abbrev cX2_forget : ByteArray := prog_4_method_4_code
def yX2_forget : MethodName := ⟨RX2, "forget", "()V"⟩
def RX3 : String := "PlanBranches$Joint"
def TX3 : u_T := fun k => match k with
  | 0 => ("PlanBranches$Joint", "plan", "LPlanBranches$Plan;", true)
  | 1 => ("PlanBranches$Joint", "clashing", "I", false)
  | _ => ("PlanBranches$Joint", "unresolved", "I", false)
def tyX3 : Nat → FieldType := fun k => match k with
  | 0 => .object "PlanBranches$Plan"
  | 1 => .int
  | _ => .int
abbrev wsX30 : List Cond := u_ws RX3 TX3 3
theorem nmX3 : ∀ a, a < 3 → ∀ b, b < 3 → a ≠ b → (TX3 a).2.1 ≠ (TX3 b).2.1 := by decide +kernel
theorem tyX3_ok : ∀ k, k < 3 → parseFieldDescriptor (TX3 k).2.2.1 = some (tyX3 k) := by decide +kernel
abbrev cX3_init : ByteArray := prog_5_method_1_code
def yX3_init : MethodName := ⟨RX3, "<init>", "()V"⟩
abbrev cX3_join : ByteArray := prog_5_method_2_code
def yX3_join : MethodName := ⟨RX3, "join", "(LPlanBranches$Branch;LPlanBranches$Branch;)V"⟩
abbrev cX3_clash : ByteArray := prog_5_method_3_code
def yX3_clash : MethodName := ⟨RX3, "clash", "(LPlanBranches$Plan;LPlanBranches$Plan;LPlanBranches$Plan;I)Z"⟩
abbrev cX3_apart : ByteArray := prog_5_method_4_code
def yX3_apart : MethodName := ⟨RX3, "apart", "(III)Z"⟩
abbrev cX3_joinTask : ByteArray := prog_5_method_5_code
def yX3_joinTask : MethodName := ⟨RX3, "joinTask", "(LPlanBranches$Plan;LPlanBranches$Plan;LPlanBranches$Plan;I)V"⟩
abbrev cX3_mixed : ByteArray := prog_5_method_6_code
def yX3_mixed : MethodName := ⟨RX3, "mixed", "(III)I"⟩
def RX4 : String := "PlanBranches$Plan"
def TX4 : u_T := fun k => match k with
  | 0 => ("PlanBranches$Plan", "lengths", "[I", true)
  | 1 => ("PlanBranches$Plan", "crews", "[I", true)
  | 2 => ("PlanBranches$Plan", "costs", "[I", true)
  | _ => ("PlanBranches$Plan", "needs", "[I", true)
def tyX4 : Nat → FieldType := fun k => match k with
  | 0 => .array .int
  | 1 => .array .int
  | 2 => .array .int
  | _ => .array .int
abbrev wsX40 : List Cond := u_ws RX4 TX4 4
theorem nmX4 : ∀ a, a < 4 → ∀ b, b < 4 → a ≠ b → (TX4 a).2.1 ≠ (TX4 b).2.1 := by decide +kernel
theorem tyX4_ok : ∀ k, k < 4 → parseFieldDescriptor (TX4 k).2.2.1 = some (tyX4 k) := by decide +kernel
abbrev cX4_init : ByteArray := prog_6_method_1_code
def yX4_init : MethodName := ⟨RX4, "<init>", "()V"⟩
abbrev cX4_has : ByteArray := prog_6_method_2_code
def yX4_has : MethodName := ⟨RX4, "has", "(I)Z"⟩
abbrev cX4_put : ByteArray := prog_6_method_3_code
def yX4_put : MethodName := ⟨RX4, "put", "(IIIII)V"⟩
abbrev cX4_clear : ByteArray := prog_6_method_4_code
def yX4_clear : MethodName := ⟨RX4, "clear", "(I)V"⟩
abbrev cX4_take : ByteArray := prog_6_method_5_code
def yX4_take : MethodName := ⟨RX4, "take", "(LPlanBranches$Plan;I)V"⟩
abbrev cX4_copyFrom : ByteArray := prog_6_method_6_code
def yX4_copyFrom : MethodName := ⟨RX4, "copyFrom", "(LPlanBranches$Plan;)V"⟩
abbrev cX4_same : ByteArray := prog_6_method_7_code
def yX4_same : MethodName := ⟨RX4, "same", "(LPlanBranches$Plan;I)Z"⟩
abbrev cX4_countOthers : ByteArray := prog_6_method_8_code
def yX4_countOthers : MethodName := ⟨RX4, "countOthers", "(LPlanBranches$Plan;)I"⟩
abbrev cX4_present : ByteArray := prog_6_method_9_code
def yX4_present : MethodName := ⟨RX4, "present", "()I"⟩
abbrev cX4_totalCost : ByteArray := prog_6_method_10_code
def yX4_totalCost : MethodName := ⟨RX4, "totalCost", "()I"⟩
abbrev cX4_needers : ByteArray := prog_6_method_11_code
def yX4_needers : MethodName := ⟨RX4, "needers", "(I)I"⟩
abbrev cX4_allNeeds : ByteArray := prog_6_method_12_code
def yX4_allNeeds : MethodName := ⟨RX4, "allNeeds", "(I)I"⟩
abbrev cX4_lacking : ByteArray := prog_6_method_13_code
def yX4_lacking : MethodName := ⟨RX4, "lacking", "()I"⟩
abbrev cX4_ringed : ByteArray := prog_6_method_14_code
def yX4_ringed : MethodName := ⟨RX4, "ringed", "()I"⟩
def RX5 : String := "PlanBranches$Schedule"
def TX5 : u_T := fun k => match k with
  | 0 => ("PlanBranches$Schedule", "firstDays", "[I", true)
  | 1 => ("PlanBranches$Schedule", "work", "[[I", true)
  | _ => ("PlanBranches$Schedule", "placed", "I", false)
def tyX5 : Nat → FieldType := fun k => match k with
  | 0 => .array .int
  | 1 => .array (.array .int)
  | _ => .int
abbrev wsX50 : List Cond := u_ws RX5 TX5 3
theorem nmX5 : ∀ a, a < 3 → ∀ b, b < 3 → a ≠ b → (TX5 a).2.1 ≠ (TX5 b).2.1 := by decide +kernel
theorem tyX5_ok : ∀ k, k < 3 → parseFieldDescriptor (TX5 k).2.2.1 = some (tyX5 k) := by decide +kernel
abbrev cX5_init : ByteArray := prog_7_method_1_code
def yX5_init : MethodName := ⟨RX5, "<init>", "()V"⟩
abbrev cX5_start : ByteArray := prog_7_method_2_code
def yX5_start : MethodName := ⟨RX5, "start", "(LPlanBranches$Crews;I)V"⟩
abbrev cX5_placeByTails : ByteArray := prog_7_method_3_code
def yX5_placeByTails : MethodName := ⟨RX5, "placeByTails", "(LPlanBranches$Plan;[I)V"⟩
abbrev cX5_nextByTails : ByteArray := prog_7_method_4_code
def yX5_nextByTails : MethodName := ⟨RX5, "nextByTails", "(LPlanBranches$Plan;I[I)I"⟩
abbrev cX5_endByAll : ByteArray := prog_7_method_5_code
def yX5_endByAll : MethodName := ⟨RX5, "endByAll", "(LPlanBranches$Plan;)I"⟩
abbrev cX5_endByOrders : ByteArray := prog_7_method_6_code
def yX5_endByOrders : MethodName := ⟨RX5, "endByOrders", "(LPlanBranches$Schedule;LPlanBranches$Plan;IIII)I"⟩
abbrev cX5_ready : ByteArray := prog_7_method_7_code
def yX5_ready : MethodName := ⟨RX5, "ready", "(LPlanBranches$Plan;II)Z"⟩
abbrev cX5_earliest : ByteArray := prog_7_method_8_code
def yX5_earliest : MethodName := ⟨RX5, "earliest", "(LPlanBranches$Plan;I)I"⟩
abbrev cX5_dayBehindNeeds : ByteArray := prog_7_method_9_code
def yX5_dayBehindNeeds : MethodName := ⟨RX5, "dayBehindNeeds", "(LPlanBranches$Plan;I)I"⟩
abbrev cX5_place : ByteArray := prog_7_method_10_code
def yX5_place : MethodName := ⟨RX5, "place", "(LPlanBranches$Plan;II)V"⟩
abbrev cX5_takeBack : ByteArray := prog_7_method_11_code
def yX5_takeBack : MethodName := ⟨RX5, "takeBack", "(LPlanBranches$Plan;II)V"⟩
abbrev cX5_markWork : ByteArray := prog_7_method_12_code
def yX5_markWork : MethodName := ⟨RX5, "markWork", "(LPlanBranches$Plan;III)V"⟩
abbrev cX5_endOf : ByteArray := prog_7_method_13_code
def yX5_endOf : MethodName := ⟨RX5, "endOf", "(LPlanBranches$Plan;)I"⟩
def RX6 : String := "PlanBranches$Ways"
def TX6 : u_T := fun k => match k with
  | 0 => ("PlanBranches$Ways", "tails", "[I", true)
  | 1 => ("PlanBranches$Ways", "heads", "[I", true)
  | _ => ("PlanBranches$Ways", "longest", "I", false)
def tyX6 : Nat → FieldType := fun k => match k with
  | 0 => .array .int
  | 1 => .array .int
  | _ => .int
abbrev wsX60 : List Cond := u_ws RX6 TX6 3
theorem nmX6 : ∀ a, a < 3 → ∀ b, b < 3 → a ≠ b → (TX6 a).2.1 ≠ (TX6 b).2.1 := by decide +kernel
theorem tyX6_ok : ∀ k, k < 3 → parseFieldDescriptor (TX6 k).2.2.1 = some (tyX6 k) := by decide +kernel
abbrev cX6_init : ByteArray := prog_8_method_1_code
def yX6_init : MethodName := ⟨RX6, "<init>", "()V"⟩
abbrev cX6_measure : ByteArray := prog_8_method_2_code
def yX6_measure : MethodName := ⟨RX6, "measure", "(LPlanBranches$Plan;)V"⟩
abbrev cX6_stretch : ByteArray := prog_8_method_3_code
def yX6_stretch : MethodName := ⟨RX6, "stretch", "(LPlanBranches$Plan;I)Z"⟩
abbrev cX6_slackOf : ByteArray := prog_8_method_4_code
def yX6_slackOf : MethodName := ⟨RX6, "slackOf", "(I)I"⟩
def RX7 : String := "PlanBranches"
def TX7 : u_T := fun k => match k with
  | 0 => ("PlanBranches", "begun", "[LPlanBranches$Branch;", true)
  | 1 => ("PlanBranches", "begunCount", "I", false)
  | 2 => ("PlanBranches", "crews", "LPlanBranches$Crews;", true)
  | 3 => ("PlanBranches", "joint", "LPlanBranches$Joint;", true)
  | 4 => ("PlanBranches", "ways", "LPlanBranches$Ways;", true)
  | 5 => ("PlanBranches", "schedule", "LPlanBranches$Schedule;", true)
  | _ => ("PlanBranches", "because", "I", false)
def tyX7 : Nat → FieldType := fun k => match k with
  | 0 => .array (.object "PlanBranches$Branch")
  | 1 => .int
  | 2 => .object "PlanBranches$Crews"
  | 3 => .object "PlanBranches$Joint"
  | 4 => .object "PlanBranches$Ways"
  | 5 => .object "PlanBranches$Schedule"
  | _ => .int
abbrev wsX70 : List Cond := u_ws RX7 TX7 7
theorem nmX7 : ∀ a, a < 7 → ∀ b, b < 7 → a ≠ b → (TX7 a).2.1 ≠ (TX7 b).2.1 := by decide +kernel
theorem tyX7_ok : ∀ k, k < 7 → parseFieldDescriptor (TX7 k).2.2.1 = some (tyX7 k) := by decide +kernel
abbrev cX7_init : ByteArray := prog_1_method_1_code
def yX7_init : MethodName := ⟨RX7, "<init>", "()V"⟩
abbrev cX7_setTask : ByteArray := prog_1_method_2_code
def yX7_setTask : MethodName := ⟨RX7, "setTask", "(IIIII)Z"⟩
abbrev cX7_removeTask : ByteArray := prog_1_method_3_code
def yX7_removeTask : MethodName := ⟨RX7, "removeTask", "(II)I"⟩
abbrev cX7_setNeed : ByteArray := prog_1_method_4_code
def yX7_setNeed : MethodName := ⟨RX7, "setNeed", "(IIIZ)Z"⟩
abbrev cX7_undo : ByteArray := prog_1_method_5_code
def yX7_undo : MethodName := ⟨RX7, "undo", "(I)I"⟩
abbrev cX7_tasks : ByteArray := prog_1_method_6_code
def yX7_tasks : MethodName := ⟨RX7, "tasks", "(I)I"⟩
abbrev cX7_length : ByteArray := prog_1_method_7_code
def yX7_length : MethodName := ⟨RX7, "length", "(II)I"⟩
abbrev cX7_crew : ByteArray := prog_1_method_8_code
def yX7_crew : MethodName := ⟨RX7, "crew", "(II)I"⟩
abbrev cX7_needs : ByteArray := prog_1_method_9_code
def yX7_needs : MethodName := ⟨RX7, "needs", "(II)I"⟩
abbrev cX7_cost : ByteArray := prog_1_method_10_code
def yX7_cost : MethodName := ⟨RX7, "cost", "(I)I"⟩
abbrev cX7_begin : ByteArray := prog_1_method_11_code
def yX7_begin : MethodName := ⟨RX7, "begin", "(I)I"⟩
abbrev cX7_branches : ByteArray := prog_1_method_12_code
def yX7_branches : MethodName := ⟨RX7, "branches", "()I"⟩
abbrev cX7_parent : ByteArray := prog_1_method_13_code
def yX7_parent : MethodName := ⟨RX7, "parent", "(I)I"⟩
abbrev cX7_setBudget : ByteArray := prog_1_method_14_code
def yX7_setBudget : MethodName := ⟨RX7, "setBudget", "(II)I"⟩
abbrev cX7_resolve : ByteArray := prog_1_method_15_code
def yX7_resolve : MethodName := ⟨RX7, "resolve", "(III)I"⟩
abbrev cX7_clashes : ByteArray := prog_1_method_16_code
def yX7_clashes : MethodName := ⟨RX7, "clashes", "(I)I"⟩
abbrev cX7_reason : ByteArray := prog_1_method_17_code
def yX7_reason : MethodName := ⟨RX7, "reason", "(IZ)I"⟩
abbrev cX7_reasonTask : ByteArray := prog_1_method_18_code
def yX7_reasonTask : MethodName := ⟨RX7, "reasonTask", "(IZ)I"⟩
abbrev cX7_merge : ByteArray := prog_1_method_19_code
def yX7_merge : MethodName := ⟨RX7, "merge", "(I)I"⟩
abbrev cX7_update : ByteArray := prog_1_method_20_code
def yX7_update : MethodName := ⟨RX7, "update", "(I)I"⟩
abbrev cX7_give : ByteArray := prog_1_method_21_code
def yX7_give : MethodName := ⟨RX7, "give", "(II)I"⟩
abbrev cX7_lend : ByteArray := prog_1_method_22_code
def yX7_lend : MethodName := ⟨RX7, "lend", "(IIII)I"⟩
abbrev cX7_holder : ByteArray := prog_1_method_23_code
def yX7_holder : MethodName := ⟨RX7, "holder", "(II)I"⟩
abbrev cX7_tail : ByteArray := prog_1_method_24_code
def yX7_tail : MethodName := ⟨RX7, "tail", "(II)I"⟩
abbrev cX7_slack : ByteArray := prog_1_method_25_code
def yX7_slack : MethodName := ⟨RX7, "slack", "(II)I"⟩
abbrev cX7_critical : ByteArray := prog_1_method_26_code
def yX7_critical : MethodName := ⟨RX7, "critical", "(I)I"⟩
abbrev cX7_way : ByteArray := prog_1_method_27_code
def yX7_way : MethodName := ⟨RX7, "way", "(I)I"⟩
abbrev cX7_firstDay : ByteArray := prog_1_method_28_code
def yX7_firstDay : MethodName := ⟨RX7, "firstDay", "(II)I"⟩
abbrev cX7_leftOut : ByteArray := prog_1_method_29_code
def yX7_leftOut : MethodName := ⟨RX7, "leftOut", "(I)I"⟩
abbrev cX7_lastDay : ByteArray := prog_1_method_30_code
def yX7_lastDay : MethodName := ⟨RX7, "lastDay", "(I)I"⟩
abbrev cX7_lastDayByAll : ByteArray := prog_1_method_31_code
def yX7_lastDayByAll : MethodName := ⟨RX7, "lastDayByAll", "(I)I"⟩
abbrev cX7_taskOn : ByteArray := prog_1_method_32_code
def yX7_taskOn : MethodName := ⟨RX7, "taskOn", "(III)I"⟩
abbrev cX7_branchAt : ByteArray := prog_1_method_33_code
def yX7_branchAt : MethodName := ⟨RX7, "branchAt", "(I)LPlanBranches$Branch;"⟩
abbrev cX7_parentOf : ByteArray := prog_1_method_34_code
def yX7_parentOf : MethodName := ⟨RX7, "parentOf", "(LPlanBranches$Branch;)LPlanBranches$Branch;"⟩
abbrev cX7_checkTask : ByteArray := prog_1_method_35_code
def yX7_checkTask : MethodName := ⟨RX7, "checkTask", "(I)V"⟩
abbrev cX7_checkRange : ByteArray := prog_1_method_36_code
def yX7_checkRange : MethodName := ⟨RX7, "checkRange", "(III)V"⟩
abbrev cX7_contains : ByteArray := prog_1_method_37_code
def yX7_contains : MethodName := ⟨RX7, "contains", "(II)Z"⟩
abbrev cX7_lowest : ByteArray := prog_1_method_38_code
def yX7_lowest : MethodName := ⟨RX7, "lowest", "(I)I"⟩
abbrev cX7_placeByRule : ByteArray := prog_1_method_39_code
def yX7_placeByRule : MethodName := ⟨RX7, "placeByRule", "(LPlanBranches$Plan;LPlanBranches$Branch;)V"⟩
abbrev cX7_judge : ByteArray := prog_1_method_40_code
def yX7_judge : MethodName := ⟨RX7, "judge", "(LPlanBranches$Branch;LPlanBranches$Branch;LPlanBranches$Branch;)I"⟩
def RX8 : String := "PlanBranchesModel"
def TX8 : u_T := fun k => match k with
  | 0 => ("PlanBranchesModel", "thrown", "I", false)
  | 1 => ("PlanBranchesModel", "length", "[I", true)
  | 2 => ("PlanBranchesModel", "crew", "[I", true)
  | 3 => ("PlanBranchesModel", "cost", "[I", true)
  | 4 => ("PlanBranchesModel", "needs", "[I", true)
  | 5 => ("PlanBranchesModel", "parent", "[I", true)
  | 6 => ("PlanBranchesModel", "budget", "[I", true)
  | 7 => ("PlanBranchesModel", "resolved", "[I", true)
  | 8 => ("PlanBranchesModel", "branches", "I", false)
  | 9 => ("PlanBranchesModel", "task", "[I", true)
  | 10 => ("PlanBranchesModel", "lengthThen", "[I", true)
  | 11 => ("PlanBranchesModel", "crewThen", "[I", true)
  | 12 => ("PlanBranchesModel", "costThen", "[I", true)
  | 13 => ("PlanBranchesModel", "needsThen", "[I", true)
  | 14 => ("PlanBranchesModel", "undos", "[I", true)
  | 15 => ("PlanBranchesModel", "owner", "[I", true)
  | 16 => ("PlanBranchesModel", "loanCrew", "[I", true)
  | 17 => ("PlanBranchesModel", "loanBranch", "[I", true)
  | 18 => ("PlanBranchesModel", "loanFrom", "[I", true)
  | 19 => ("PlanBranchesModel", "loanTo", "[I", true)
  | 20 => ("PlanBranchesModel", "loans", "I", false)
  | 21 => ("PlanBranchesModel", "tail", "[I", true)
  | 22 => ("PlanBranchesModel", "head", "[I", true)
  | 23 => ("PlanBranchesModel", "first", "[I", true)
  | 24 => ("PlanBranchesModel", "works", "[I", true)
  | 25 => ("PlanBranchesModel", "isHeld", "[Z", true)
  | 26 => ("PlanBranchesModel", "order", "[I", true)
  | _ => ("PlanBranchesModel", "clashing", "I", false)
def tyX8 : Nat → FieldType := fun k => match k with
  | 0 => .int
  | 1 => .array .int
  | 2 => .array .int
  | 3 => .array .int
  | 4 => .array .int
  | 5 => .array .int
  | 6 => .array .int
  | 7 => .array .int
  | 8 => .int
  | 9 => .array .int
  | 10 => .array .int
  | 11 => .array .int
  | 12 => .array .int
  | 13 => .array .int
  | 14 => .array .int
  | 15 => .array .int
  | 16 => .array .int
  | 17 => .array .int
  | 18 => .array .int
  | 19 => .array .int
  | 20 => .int
  | 21 => .array .int
  | 22 => .array .int
  | 23 => .array .int
  | 24 => .array .int
  | 25 => .array .boolean
  | 26 => .array .int
  | _ => .int
abbrev wsX80 : List Cond := u_ws RX8 TX8 28
theorem nmX8 : ∀ a, a < 28 → ∀ b, b < 28 → a ≠ b → (TX8 a).2.1 ≠ (TX8 b).2.1 := by decide +kernel
theorem tyX8_ok : ∀ k, k < 28 → parseFieldDescriptor (TX8 k).2.2.1 = some (tyX8 k) := by decide +kernel
abbrev cX8_init : ByteArray := prog_10_method_1_code
def yX8_init : MethodName := ⟨RX8, "<init>", "()V"⟩
abbrev cX8_thrown : ByteArray := prog_10_method_2_code
def yX8_thrown : MethodName := ⟨RX8, "thrown", "()I"⟩
abbrev cX8_isFine : ByteArray := prog_10_method_3_code
def yX8_isFine : MethodName := ⟨RX8, "isFine", "(I)Z"⟩
abbrev cX8_isIn : ByteArray := prog_10_method_4_code
def yX8_isIn : MethodName := ⟨RX8, "isIn", "(III)Z"⟩
abbrev cX8_isBranch : ByteArray := prog_10_method_5_code
def yX8_isBranch : MethodName := ⟨RX8, "isBranch", "(I)Z"⟩
abbrev cX8_isTask : ByteArray := prog_10_method_6_code
def yX8_isTask : MethodName := ⟨RX8, "isTask", "(I)Z"⟩
abbrev cX8_at : ByteArray := prog_10_method_7_code
def yX8_at : MethodName := ⟨RX8, "at", "(II)I"⟩
abbrev cX8_isThere : ByteArray := prog_10_method_8_code
def yX8_isThere : MethodName := ⟨RX8, "isThere", "(II)Z"⟩
abbrev cX8_doesNeed : ByteArray := prog_10_method_9_code
def yX8_doesNeed : MethodName := ⟨RX8, "doesNeed", "(III)Z"⟩
abbrev cX8_keeps : ByteArray := prog_10_method_10_code
def yX8_keeps : MethodName := ⟨RX8, "keeps", "(II)V"⟩
abbrev cX8_lays : ByteArray := prog_10_method_11_code
def yX8_lays : MethodName := ⟨RX8, "lays", "(IIIIII)V"⟩
abbrev cX8_copiesTask : ByteArray := prog_10_method_12_code
def yX8_copiesTask : MethodName := ⟨RX8, "copiesTask", "(III)V"⟩
abbrev cX8_copies : ByteArray := prog_10_method_13_code
def yX8_copies : MethodName := ⟨RX8, "copies", "(II)V"⟩
abbrev cX8_setTask : ByteArray := prog_10_method_14_code
def yX8_setTask : MethodName := ⟨RX8, "setTask", "(IIIII)Z"⟩
abbrev cX8_isNeeded : ByteArray := prog_10_method_15_code
def yX8_isNeeded : MethodName := ⟨RX8, "isNeeded", "(II)Z"⟩
abbrev cX8_removeTask : ByteArray := prog_10_method_16_code
def yX8_removeTask : MethodName := ⟨RX8, "removeTask", "(II)I"⟩
abbrev cX8_allNeeds : ByteArray := prog_10_method_17_code
def yX8_allNeeds : MethodName := ⟨RX8, "allNeeds", "(II)I"⟩
abbrev cX8_setNeed : ByteArray := prog_10_method_18_code
def yX8_setNeed : MethodName := ⟨RX8, "setNeed", "(IIIZ)Z"⟩
abbrev cX8_undo : ByteArray := prog_10_method_19_code
def yX8_undo : MethodName := ⟨RX8, "undo", "(I)I"⟩
abbrev cX8_tasks0 : ByteArray := prog_10_method_20_code
def yX8_tasks0 : MethodName := ⟨RX8, "tasks0", "(I)I"⟩
abbrev cX8_tasks : ByteArray := prog_10_method_21_code
def yX8_tasks : MethodName := ⟨RX8, "tasks", "(I)I"⟩
abbrev cX8_asks : ByteArray := prog_10_method_22_code
def yX8_asks : MethodName := ⟨RX8, "asks", "(II)Z"⟩
abbrev cX8_length : ByteArray := prog_10_method_23_code
def yX8_length : MethodName := ⟨RX8, "length", "(II)I"⟩
abbrev cX8_crew : ByteArray := prog_10_method_24_code
def yX8_crew : MethodName := ⟨RX8, "crew", "(II)I"⟩
abbrev cX8_needs : ByteArray := prog_10_method_25_code
def yX8_needs : MethodName := ⟨RX8, "needs", "(II)I"⟩
abbrev cX8_cost0 : ByteArray := prog_10_method_26_code
def yX8_cost0 : MethodName := ⟨RX8, "cost0", "(I)I"⟩
abbrev cX8_cost : ByteArray := prog_10_method_27_code
def yX8_cost : MethodName := ⟨RX8, "cost", "(I)I"⟩
abbrev cX8_forgets : ByteArray := prog_10_method_28_code
def yX8_forgets : MethodName := ⟨RX8, "forgets", "(I)V"⟩
abbrev cX8_begin : ByteArray := prog_10_method_29_code
def yX8_begin : MethodName := ⟨RX8, "begin", "(I)I"⟩
abbrev cX8_branches : ByteArray := prog_10_method_30_code
def yX8_branches : MethodName := ⟨RX8, "branches", "()I"⟩
abbrev cX8_parent : ByteArray := prog_10_method_31_code
def yX8_parent : MethodName := ⟨RX8, "parent", "(I)I"⟩
abbrev cX8_setBudget : ByteArray := prog_10_method_32_code
def yX8_setBudget : MethodName := ⟨RX8, "setBudget", "(II)I"⟩
abbrev cX8_resolve : ByteArray := prog_10_method_33_code
def yX8_resolve : MethodName := ⟨RX8, "resolve", "(III)I"⟩
abbrev cX8_isSame : ByteArray := prog_10_method_34_code
def yX8_isSame : MethodName := ⟨RX8, "isSame", "(III)Z"⟩
abbrev cX8_isOpen : ByteArray := prog_10_method_35_code
def yX8_isOpen : MethodName := ⟨RX8, "isOpen", "(III)Z"⟩
abbrev cX8_mixed : ByteArray := prog_10_method_36_code
def yX8_mixed : MethodName := ⟨RX8, "mixed", "(III)I"⟩
abbrev cX8_mixes : ByteArray := prog_10_method_37_code
def yX8_mixes : MethodName := ⟨RX8, "mixes", "(IIII)Z"⟩
abbrev cX8_joinsTask : ByteArray := prog_10_method_38_code
def yX8_joinsTask : MethodName := ⟨RX8, "joinsTask", "(IIII)Z"⟩
abbrev cX8_joins : ByteArray := prog_10_method_39_code
def yX8_joins : MethodName := ⟨RX8, "joins", "(I)I"⟩
abbrev cX8_clashes : ByteArray := prog_10_method_40_code
def yX8_clashes : MethodName := ⟨RX8, "clashes", "(I)I"⟩
abbrev cX8_lowest : ByteArray := prog_10_method_41_code
def yX8_lowest : MethodName := ⟨RX8, "lowest", "(I)I"⟩
abbrev cX8_missing : ByteArray := prog_10_method_42_code
def yX8_missing : MethodName := ⟨RX8, "missing", "()I"⟩
abbrev cX8_rings : ByteArray := prog_10_method_43_code
def yX8_rings : MethodName := ⟨RX8, "rings", "()I"⟩
abbrev cX8_reasonNow : ByteArray := prog_10_method_44_code
def yX8_reasonNow : MethodName := ⟨RX8, "reasonNow", "(IZ)I"⟩
abbrev cX8_isOwn : ByteArray := prog_10_method_45_code
def yX8_isOwn : MethodName := ⟨RX8, "isOwn", "(I)Z"⟩
abbrev cX8_reason : ByteArray := prog_10_method_46_code
def yX8_reason : MethodName := ⟨RX8, "reason", "(IZ)I"⟩
abbrev cX8_reasonTask : ByteArray := prog_10_method_47_code
def yX8_reasonTask : MethodName := ⟨RX8, "reasonTask", "(IZ)I"⟩
abbrev cX8_becomes : ByteArray := prog_10_method_48_code
def yX8_becomes : MethodName := ⟨RX8, "becomes", "(I)I"⟩
abbrev cX8_merge : ByteArray := prog_10_method_49_code
def yX8_merge : MethodName := ⟨RX8, "merge", "(I)I"⟩
abbrev cX8_update : ByteArray := prog_10_method_50_code
def yX8_update : MethodName := ⟨RX8, "update", "(I)I"⟩
abbrev cX8_isCrew : ByteArray := prog_10_method_51_code
def yX8_isCrew : MethodName := ⟨RX8, "isCrew", "(I)Z"⟩
abbrev cX8_isDay : ByteArray := prog_10_method_52_code
def yX8_isDay : MethodName := ⟨RX8, "isDay", "(I)Z"⟩
abbrev cX8_give : ByteArray := prog_10_method_53_code
def yX8_give : MethodName := ⟨RX8, "give", "(II)I"⟩
abbrev cX8_lend : ByteArray := prog_10_method_54_code
def yX8_lend : MethodName := ⟨RX8, "lend", "(IIII)I"⟩
abbrev cX8_holds : ByteArray := prog_10_method_55_code
def yX8_holds : MethodName := ⟨RX8, "holds", "(II)I"⟩
abbrev cX8_holder : ByteArray := prog_10_method_56_code
def yX8_holder : MethodName := ⟨RX8, "holder", "(II)I"⟩
abbrev cX8_goes : ByteArray := prog_10_method_57_code
def yX8_goes : MethodName := ⟨RX8, "goes", "(I)I"⟩
abbrev cX8_tail : ByteArray := prog_10_method_58_code
def yX8_tail : MethodName := ⟨RX8, "tail", "(II)I"⟩
abbrev cX8_slack : ByteArray := prog_10_method_59_code
def yX8_slack : MethodName := ⟨RX8, "slack", "(II)I"⟩
abbrev cX8_critical : ByteArray := prog_10_method_60_code
def yX8_critical : MethodName := ⟨RX8, "critical", "(I)I"⟩
abbrev cX8_way : ByteArray := prog_10_method_61_code
def yX8_way : MethodName := ⟨RX8, "way", "(I)I"⟩
abbrev cX8_clears : ByteArray := prog_10_method_62_code
def yX8_clears : MethodName := ⟨RX8, "clears", "()V"⟩
abbrev cX8_finds : ByteArray := prog_10_method_63_code
def yX8_finds : MethodName := ⟨RX8, "finds", "(I)V"⟩
abbrev cX8_isReady : ByteArray := prog_10_method_64_code
def yX8_isReady : MethodName := ⟨RX8, "isReady", "(II)Z"⟩
abbrev cX8_places : ByteArray := prog_10_method_65_code
def yX8_places : MethodName := ⟨RX8, "places", "(II)I"⟩
abbrev cX8_unplaced : ByteArray := prog_10_method_66_code
def yX8_unplaced : MethodName := ⟨RX8, "unplaced", "(II)I"⟩
abbrev cX8_firstDay : ByteArray := prog_10_method_67_code
def yX8_firstDay : MethodName := ⟨RX8, "firstDay", "(II)I"⟩
abbrev cX8_leftOut : ByteArray := prog_10_method_68_code
def yX8_leftOut : MethodName := ⟨RX8, "leftOut", "(I)I"⟩
abbrev cX8_last : ByteArray := prog_10_method_69_code
def yX8_last : MethodName := ⟨RX8, "last", "(I)I"⟩
abbrev cX8_lastDay : ByteArray := prog_10_method_70_code
def yX8_lastDay : MethodName := ⟨RX8, "lastDay", "(I)I"⟩
abbrev cX8_count : ByteArray := prog_10_method_71_code
def yX8_count : MethodName := ⟨RX8, "count", "(I)I"⟩
abbrev cX8_byOrder : ByteArray := prog_10_method_72_code
def yX8_byOrder : MethodName := ⟨RX8, "byOrder", "(II)I"⟩
abbrev cX8_turns : ByteArray := prog_10_method_73_code
def yX8_turns : MethodName := ⟨RX8, "turns", "(I)Z"⟩
abbrev cX8_lastDayByAll : ByteArray := prog_10_method_74_code
def yX8_lastDayByAll : MethodName := ⟨RX8, "lastDayByAll", "(I)I"⟩
abbrev cX8_taskOn : ByteArray := prog_10_method_75_code
def yX8_taskOn : MethodName := ⟨RX8, "taskOn", "(III)I"⟩
def RJx145de : String := "java/io/Serializable"
def RJ6 : String := "java/lang/Integer"
abbrev cJ6_bitCount_0f7a4 : ByteArray := prog_15_method_49_code
def yJ6_bitCount_0f7a4 : MethodName := ⟨RJ6, "bitCount", "(I)I"⟩
def RJ9 : String := "java/lang/Math"
abbrev cJ9_max_7cf53 : ByteArray := prog_16_method_65_code
def yJ9_max_7cf53 : MethodName := ⟨RJ9, "max", "(II)I"⟩
def RJ0 : String := "java/lang/String"
def RJ7 : String := "java/util/Arrays"
abbrev cJ7_fill_53178 : ByteArray := prog_20_method_103_code
def yJ7_fill_53178 : MethodName := ⟨RJ7, "fill", "([II)V"⟩
def RL : String := "PlanBranchesLaw"
abbrev cL_setTask : ByteArray := method_3_code
def yL_setTask : MethodName := ⟨RL, "setTask", "(LPlanBranches;IIIII[J)I"⟩
abbrev cL_removeTask : ByteArray := method_4_code
def yL_removeTask : MethodName := ⟨RL, "removeTask", "(LPlanBranches;II[J)I"⟩
abbrev cL_setNeed : ByteArray := method_5_code
def yL_setNeed : MethodName := ⟨RL, "setNeed", "(LPlanBranches;IIIZ[J)I"⟩
abbrev cL_undo : ByteArray := method_6_code
def yL_undo : MethodName := ⟨RL, "undo", "(LPlanBranches;I[J)I"⟩
abbrev cL_tasks : ByteArray := method_7_code
def yL_tasks : MethodName := ⟨RL, "tasks", "(LPlanBranches;I[J)I"⟩
abbrev cL_length : ByteArray := method_8_code
def yL_length : MethodName := ⟨RL, "length", "(LPlanBranches;II[J)I"⟩
abbrev cL_crew : ByteArray := method_9_code
def yL_crew : MethodName := ⟨RL, "crew", "(LPlanBranches;II[J)I"⟩
abbrev cL_needs : ByteArray := method_10_code
def yL_needs : MethodName := ⟨RL, "needs", "(LPlanBranches;II[J)I"⟩
abbrev cL_cost : ByteArray := method_11_code
def yL_cost : MethodName := ⟨RL, "cost", "(LPlanBranches;I[J)I"⟩
abbrev cL_begin : ByteArray := method_12_code
def yL_begin : MethodName := ⟨RL, "begin", "(LPlanBranches;I[J)I"⟩
abbrev cL_parent : ByteArray := method_13_code
def yL_parent : MethodName := ⟨RL, "parent", "(LPlanBranches;I[J)I"⟩
abbrev cL_setBudget : ByteArray := method_14_code
def yL_setBudget : MethodName := ⟨RL, "setBudget", "(LPlanBranches;II[J)I"⟩
abbrev cL_resolve : ByteArray := method_15_code
def yL_resolve : MethodName := ⟨RL, "resolve", "(LPlanBranches;III[J)I"⟩
abbrev cL_clashes : ByteArray := method_16_code
def yL_clashes : MethodName := ⟨RL, "clashes", "(LPlanBranches;I[J)I"⟩
abbrev cL_reason : ByteArray := method_17_code
def yL_reason : MethodName := ⟨RL, "reason", "(LPlanBranches;IZ[J)I"⟩
abbrev cL_reasonTask : ByteArray := method_18_code
def yL_reasonTask : MethodName := ⟨RL, "reasonTask", "(LPlanBranches;IZ[J)I"⟩
abbrev cL_merge : ByteArray := method_19_code
def yL_merge : MethodName := ⟨RL, "merge", "(LPlanBranches;I[J)I"⟩
abbrev cL_update : ByteArray := method_20_code
def yL_update : MethodName := ⟨RL, "update", "(LPlanBranches;I[J)I"⟩
abbrev cL_give : ByteArray := method_21_code
def yL_give : MethodName := ⟨RL, "give", "(LPlanBranches;II[J)I"⟩
abbrev cL_lend : ByteArray := method_22_code
def yL_lend : MethodName := ⟨RL, "lend", "(LPlanBranches;IIII[J)I"⟩
abbrev cL_holder : ByteArray := method_23_code
def yL_holder : MethodName := ⟨RL, "holder", "(LPlanBranches;II[J)I"⟩
abbrev cL_tail : ByteArray := method_24_code
def yL_tail : MethodName := ⟨RL, "tail", "(LPlanBranches;II[J)I"⟩
abbrev cL_slack : ByteArray := method_25_code
def yL_slack : MethodName := ⟨RL, "slack", "(LPlanBranches;II[J)I"⟩
abbrev cL_critical : ByteArray := method_26_code
def yL_critical : MethodName := ⟨RL, "critical", "(LPlanBranches;I[J)I"⟩
abbrev cL_way : ByteArray := method_27_code
def yL_way : MethodName := ⟨RL, "way", "(LPlanBranches;I[J)I"⟩
abbrev cL_firstDay : ByteArray := method_28_code
def yL_firstDay : MethodName := ⟨RL, "firstDay", "(LPlanBranches;II[J)I"⟩
abbrev cL_leftOut : ByteArray := method_29_code
def yL_leftOut : MethodName := ⟨RL, "leftOut", "(LPlanBranches;I[J)I"⟩
abbrev cL_lastDay : ByteArray := method_30_code
def yL_lastDay : MethodName := ⟨RL, "lastDay", "(LPlanBranches;I[J)I"⟩
abbrev cL_lastDayByAll : ByteArray := method_31_code
def yL_lastDayByAll : MethodName := ⟨RL, "lastDayByAll", "(LPlanBranches;I[J)I"⟩
abbrev cL_taskOn : ByteArray := method_32_code
def yL_taskOn : MethodName := ⟨RL, "taskOn", "(LPlanBranches;III[J)I"⟩
abbrev cL_law : ByteArray := code
def yL_law : MethodName := ⟨RL, "law", "([I)Z"⟩
abbrev vwCl : List vw_C := [(RX0, TX0, 7), (RX1, TX1, 3), (RX2, TX2, 7), (RX3, TX3, 3), (RX4, TX4, 4), (RX5, TX5, 3), (RX6, TX6, 3), (RX7, TX7, 7), (RX8, TX8, 28)]
end
section
def pb_bad (w : Cond) : Bool := match w with
  | .castable _ _ => true
  | .methodLinkNest _ _ _ _ => true
  | .declares _ => true
  | _ => false
def tbG : List Cond := lw_tbl.filter goodWord
def tbX : List Cond := lw_tbl.filter pb_bad
theorem tbg {w : Cond} (i : Nat) (h : lw_tbl[i]? = some w) (g : goodWord w = true) : w ∈ tbG := List.mem_filter.mpr ⟨List.mem_of_getElem? h, g⟩
theorem tbx {w : Cond} (i : Nat) (h : lw_tbl[i]? = some w) (g : pb_bad w = true) : w ∈ tbX := List.mem_filter.mpr ⟨List.mem_of_getElem? h, g⟩
theorem tbG_good : GoodIn tbG tbG := goodIn_sub (fun w h => h) (List.all_eq_true.mpr fun w h => (List.mem_filter.mp h).2)
theorem tw0 : (Jvm.Cond.selects "PlanBranches" ({ cls := "PlanBranches", name := "branchAt", desc := "(I)LPlanBranches$Branch;" } : Jvm.MethodName) ({ cls := "PlanBranches", name := "branchAt", desc := "(I)LPlanBranches$Branch;" } : Jvm.MethodName)) ∈ tbG := tbg 0 (by decide +kernel) (by decide +kernel)
theorem tw1 : (Jvm.Cond.selects "java/lang/Throwable" ({ cls := "java/lang/Throwable", name := "fillInStackTrace", desc := "(I)Ljava/lang/Throwable;" } : Jvm.MethodName) ({ cls := "java/lang/Throwable", name := "fillInStackTrace", desc := "(I)Ljava/lang/Throwable;" } : Jvm.MethodName)) ∈ tbG := tbg 1 (by decide +kernel) (by decide +kernel)
theorem tw2 : (Jvm.Cond.selects "PlanBranches$Joint" ({ cls := "PlanBranches$Joint", name := "joinTask", desc := "(LPlanBranches$Plan;LPlanBranches$Plan;LPlanBranches$Plan;I)V" } : Jvm.MethodName) ({ cls := "PlanBranches$Joint", name := "joinTask", desc := "(LPlanBranches$Plan;LPlanBranches$Plan;LPlanBranches$Plan;I)V" } : Jvm.MethodName)) ∈ tbG := tbg 2 (by decide +kernel) (by decide +kernel)
theorem tw3 : (Jvm.Cond.selects "PlanBranches" ({ cls := "PlanBranches", name := "judge", desc := "(LPlanBranches$Branch;LPlanBranches$Branch;LPlanBranches$Branch;)I" } : Jvm.MethodName) ({ cls := "PlanBranches", name := "judge", desc := "(LPlanBranches$Branch;LPlanBranches$Branch;LPlanBranches$Branch;)I" } : Jvm.MethodName)) ∈ tbG := tbg 3 (by decide +kernel) (by decide +kernel)
theorem tw4 : (Jvm.Cond.selects "PlanBranches" ({ cls := "PlanBranches", name := "placeByRule", desc := "(LPlanBranches$Plan;LPlanBranches$Branch;)V" } : Jvm.MethodName) ({ cls := "PlanBranches", name := "placeByRule", desc := "(LPlanBranches$Plan;LPlanBranches$Branch;)V" } : Jvm.MethodName)) ∈ tbG := tbg 4 (by decide +kernel) (by decide +kernel)
theorem tw5 : (Jvm.Cond.selects "PlanBranches$Ways" ({ cls := "PlanBranches$Ways", name := "stretch", desc := "(LPlanBranches$Plan;I)Z" } : Jvm.MethodName) ({ cls := "PlanBranches$Ways", name := "stretch", desc := "(LPlanBranches$Plan;I)Z" } : Jvm.MethodName)) ∈ tbG := tbg 5 (by decide +kernel) (by decide +kernel)
theorem tw6 : (Jvm.Cond.selects "PlanBranches$Schedule" ({ cls := "PlanBranches$Schedule", name := "nextByTails", desc := "(LPlanBranches$Plan;I[I)I" } : Jvm.MethodName) ({ cls := "PlanBranches$Schedule", name := "nextByTails", desc := "(LPlanBranches$Plan;I[I)I" } : Jvm.MethodName)) ∈ tbG := tbg 6 (by decide +kernel) (by decide +kernel)
theorem tw7 : (Jvm.Cond.selects "PlanBranches$Schedule" ({ cls := "PlanBranches$Schedule", name := "ready", desc := "(LPlanBranches$Plan;II)Z" } : Jvm.MethodName) ({ cls := "PlanBranches$Schedule", name := "ready", desc := "(LPlanBranches$Plan;II)Z" } : Jvm.MethodName)) ∈ tbG := tbg 7 (by decide +kernel) (by decide +kernel)
theorem tw8 : (Jvm.Cond.selects "PlanBranches$Schedule" ({ cls := "PlanBranches$Schedule", name := "earliest", desc := "(LPlanBranches$Plan;I)I" } : Jvm.MethodName) ({ cls := "PlanBranches$Schedule", name := "earliest", desc := "(LPlanBranches$Plan;I)I" } : Jvm.MethodName)) ∈ tbG := tbg 8 (by decide +kernel) (by decide +kernel)
theorem tw9 : (Jvm.Cond.selects "PlanBranches$Schedule" ({ cls := "PlanBranches$Schedule", name := "dayBehindNeeds", desc := "(LPlanBranches$Plan;I)I" } : Jvm.MethodName) ({ cls := "PlanBranches$Schedule", name := "dayBehindNeeds", desc := "(LPlanBranches$Plan;I)I" } : Jvm.MethodName)) ∈ tbG := tbg 9 (by decide +kernel) (by decide +kernel)
theorem tw10 : (Jvm.Cond.selects "PlanBranches$Schedule" ({ cls := "PlanBranches$Schedule", name := "place", desc := "(LPlanBranches$Plan;II)V" } : Jvm.MethodName) ({ cls := "PlanBranches$Schedule", name := "place", desc := "(LPlanBranches$Plan;II)V" } : Jvm.MethodName)) ∈ tbG := tbg 10 (by decide +kernel) (by decide +kernel)
theorem tw11 : (Jvm.Cond.selects "PlanBranches$Schedule" ({ cls := "PlanBranches$Schedule", name := "markWork", desc := "(LPlanBranches$Plan;III)V" } : Jvm.MethodName) ({ cls := "PlanBranches$Schedule", name := "markWork", desc := "(LPlanBranches$Plan;III)V" } : Jvm.MethodName)) ∈ tbG := tbg 11 (by decide +kernel) (by decide +kernel)
theorem tw12 : (Jvm.Cond.selects "PlanBranches$Schedule" ({ cls := "PlanBranches$Schedule", name := "takeBack", desc := "(LPlanBranches$Plan;II)V" } : Jvm.MethodName) ({ cls := "PlanBranches$Schedule", name := "takeBack", desc := "(LPlanBranches$Plan;II)V" } : Jvm.MethodName)) ∈ tbG := tbg 12 (by decide +kernel) (by decide +kernel)
theorem tw13 : (Jvm.Cond.selects "PlanBranchesModel" ({ cls := "PlanBranchesModel", name := "isBranch", desc := "(I)Z" } : Jvm.MethodName) ({ cls := "PlanBranchesModel", name := "isBranch", desc := "(I)Z" } : Jvm.MethodName)) ∈ tbG := tbg 13 (by decide +kernel) (by decide +kernel)
theorem tw14 : (Jvm.Cond.selects "PlanBranchesModel" ({ cls := "PlanBranchesModel", name := "isFine", desc := "(I)Z" } : Jvm.MethodName) ({ cls := "PlanBranchesModel", name := "isFine", desc := "(I)Z" } : Jvm.MethodName)) ∈ tbG := tbg 14 (by decide +kernel) (by decide +kernel)
theorem tw15 : (Jvm.Cond.selects "PlanBranchesModel" ({ cls := "PlanBranchesModel", name := "keeps", desc := "(II)V" } : Jvm.MethodName) ({ cls := "PlanBranchesModel", name := "keeps", desc := "(II)V" } : Jvm.MethodName)) ∈ tbG := tbg 15 (by decide +kernel) (by decide +kernel)
theorem tw16 : (Jvm.Cond.selects "PlanBranchesModel" ({ cls := "PlanBranchesModel", name := "isThere", desc := "(II)Z" } : Jvm.MethodName) ({ cls := "PlanBranchesModel", name := "isThere", desc := "(II)Z" } : Jvm.MethodName)) ∈ tbG := tbg 16 (by decide +kernel) (by decide +kernel)
theorem tw17 : (Jvm.Cond.selects "PlanBranchesModel" ({ cls := "PlanBranchesModel", name := "lays", desc := "(IIIIII)V" } : Jvm.MethodName) ({ cls := "PlanBranchesModel", name := "lays", desc := "(IIIIII)V" } : Jvm.MethodName)) ∈ tbG := tbg 17 (by decide +kernel) (by decide +kernel)
theorem tw18 : (Jvm.Cond.selects "PlanBranchesModel" ({ cls := "PlanBranchesModel", name := "isNeeded", desc := "(II)Z" } : Jvm.MethodName) ({ cls := "PlanBranchesModel", name := "isNeeded", desc := "(II)Z" } : Jvm.MethodName)) ∈ tbG := tbg 18 (by decide +kernel) (by decide +kernel)
theorem tw19 : (Jvm.Cond.selects "PlanBranchesModel" ({ cls := "PlanBranchesModel", name := "doesNeed", desc := "(III)Z" } : Jvm.MethodName) ({ cls := "PlanBranchesModel", name := "doesNeed", desc := "(III)Z" } : Jvm.MethodName)) ∈ tbG := tbg 19 (by decide +kernel) (by decide +kernel)
theorem tw20 : (Jvm.Cond.selects "PlanBranchesModel" ({ cls := "PlanBranchesModel", name := "allNeeds", desc := "(II)I" } : Jvm.MethodName) ({ cls := "PlanBranchesModel", name := "allNeeds", desc := "(II)I" } : Jvm.MethodName)) ∈ tbG := tbg 20 (by decide +kernel) (by decide +kernel)
theorem tw21 : (Jvm.Cond.selects "PlanBranchesModel" ({ cls := "PlanBranchesModel", name := "tasks0", desc := "(I)I" } : Jvm.MethodName) ({ cls := "PlanBranchesModel", name := "tasks0", desc := "(I)I" } : Jvm.MethodName)) ∈ tbG := tbg 21 (by decide +kernel) (by decide +kernel)
theorem tw22 : (Jvm.Cond.selects "PlanBranchesModel" ({ cls := "PlanBranchesModel", name := "asks", desc := "(II)Z" } : Jvm.MethodName) ({ cls := "PlanBranchesModel", name := "asks", desc := "(II)Z" } : Jvm.MethodName)) ∈ tbG := tbg 22 (by decide +kernel) (by decide +kernel)
theorem tw23 : (Jvm.Cond.selects "PlanBranchesModel" ({ cls := "PlanBranchesModel", name := "cost0", desc := "(I)I" } : Jvm.MethodName) ({ cls := "PlanBranchesModel", name := "cost0", desc := "(I)I" } : Jvm.MethodName)) ∈ tbG := tbg 23 (by decide +kernel) (by decide +kernel)
theorem tw24 : (Jvm.Cond.selects "PlanBranchesModel" ({ cls := "PlanBranchesModel", name := "copies", desc := "(II)V" } : Jvm.MethodName) ({ cls := "PlanBranchesModel", name := "copies", desc := "(II)V" } : Jvm.MethodName)) ∈ tbG := tbg 24 (by decide +kernel) (by decide +kernel)
theorem tw25 : (Jvm.Cond.selects "PlanBranchesModel" ({ cls := "PlanBranchesModel", name := "copiesTask", desc := "(III)V" } : Jvm.MethodName) ({ cls := "PlanBranchesModel", name := "copiesTask", desc := "(III)V" } : Jvm.MethodName)) ∈ tbG := tbg 25 (by decide +kernel) (by decide +kernel)
theorem tw26 : (Jvm.Cond.selects "PlanBranchesModel" ({ cls := "PlanBranchesModel", name := "forgets", desc := "(I)V" } : Jvm.MethodName) ({ cls := "PlanBranchesModel", name := "forgets", desc := "(I)V" } : Jvm.MethodName)) ∈ tbG := tbg 26 (by decide +kernel) (by decide +kernel)
theorem tw27 : (Jvm.Cond.selects "PlanBranchesModel" ({ cls := "PlanBranchesModel", name := "joins", desc := "(I)I" } : Jvm.MethodName) ({ cls := "PlanBranchesModel", name := "joins", desc := "(I)I" } : Jvm.MethodName)) ∈ tbG := tbg 27 (by decide +kernel) (by decide +kernel)
theorem tw28 : (Jvm.Cond.selects "PlanBranchesModel" ({ cls := "PlanBranchesModel", name := "joinsTask", desc := "(IIII)Z" } : Jvm.MethodName) ({ cls := "PlanBranchesModel", name := "joinsTask", desc := "(IIII)Z" } : Jvm.MethodName)) ∈ tbG := tbg 28 (by decide +kernel) (by decide +kernel)
theorem tw29 : (Jvm.Cond.selects "PlanBranchesModel" ({ cls := "PlanBranchesModel", name := "isSame", desc := "(III)Z" } : Jvm.MethodName) ({ cls := "PlanBranchesModel", name := "isSame", desc := "(III)Z" } : Jvm.MethodName)) ∈ tbG := tbg 29 (by decide +kernel) (by decide +kernel)
theorem tw30 : (Jvm.Cond.selects "PlanBranchesModel" ({ cls := "PlanBranchesModel", name := "mixes", desc := "(IIII)Z" } : Jvm.MethodName) ({ cls := "PlanBranchesModel", name := "mixes", desc := "(IIII)Z" } : Jvm.MethodName)) ∈ tbG := tbg 30 (by decide +kernel) (by decide +kernel)
theorem tw31 : (Jvm.Cond.selects "PlanBranchesModel" ({ cls := "PlanBranchesModel", name := "isOwn", desc := "(I)Z" } : Jvm.MethodName) ({ cls := "PlanBranchesModel", name := "isOwn", desc := "(I)Z" } : Jvm.MethodName)) ∈ tbG := tbg 31 (by decide +kernel) (by decide +kernel)
theorem tw32 : (Jvm.Cond.selects "PlanBranchesModel" ({ cls := "PlanBranchesModel", name := "reasonNow", desc := "(IZ)I" } : Jvm.MethodName) ({ cls := "PlanBranchesModel", name := "reasonNow", desc := "(IZ)I" } : Jvm.MethodName)) ∈ tbG := tbg 32 (by decide +kernel) (by decide +kernel)
theorem tw33 : (Jvm.Cond.selects "PlanBranchesModel" ({ cls := "PlanBranchesModel", name := "missing", desc := "()I" } : Jvm.MethodName) ({ cls := "PlanBranchesModel", name := "missing", desc := "()I" } : Jvm.MethodName)) ∈ tbG := tbg 33 (by decide +kernel) (by decide +kernel)
theorem tw34 : (Jvm.Cond.selects "PlanBranchesModel" ({ cls := "PlanBranchesModel", name := "rings", desc := "()I" } : Jvm.MethodName) ({ cls := "PlanBranchesModel", name := "rings", desc := "()I" } : Jvm.MethodName)) ∈ tbG := tbg 34 (by decide +kernel) (by decide +kernel)
theorem tw35 : (Jvm.Cond.selects "PlanBranchesModel" ({ cls := "PlanBranchesModel", name := "unplaced", desc := "(II)I" } : Jvm.MethodName) ({ cls := "PlanBranchesModel", name := "unplaced", desc := "(II)I" } : Jvm.MethodName)) ∈ tbG := tbg 35 (by decide +kernel) (by decide +kernel)
theorem tw36 : (Jvm.Cond.selects "PlanBranchesModel" ({ cls := "PlanBranchesModel", name := "goes", desc := "(I)I" } : Jvm.MethodName) ({ cls := "PlanBranchesModel", name := "goes", desc := "(I)I" } : Jvm.MethodName)) ∈ tbG := tbg 36 (by decide +kernel) (by decide +kernel)
theorem tw37 : (Jvm.Cond.selects "PlanBranchesModel" ({ cls := "PlanBranchesModel", name := "clears", desc := "()V" } : Jvm.MethodName) ({ cls := "PlanBranchesModel", name := "clears", desc := "()V" } : Jvm.MethodName)) ∈ tbG := tbg 37 (by decide +kernel) (by decide +kernel)
theorem tw38 : (Jvm.Cond.selects "PlanBranchesModel" ({ cls := "PlanBranchesModel", name := "finds", desc := "(I)V" } : Jvm.MethodName) ({ cls := "PlanBranchesModel", name := "finds", desc := "(I)V" } : Jvm.MethodName)) ∈ tbG := tbg 38 (by decide +kernel) (by decide +kernel)
theorem tw39 : (Jvm.Cond.selects "PlanBranchesModel" ({ cls := "PlanBranchesModel", name := "holds", desc := "(II)I" } : Jvm.MethodName) ({ cls := "PlanBranchesModel", name := "holds", desc := "(II)I" } : Jvm.MethodName)) ∈ tbG := tbg 39 (by decide +kernel) (by decide +kernel)
theorem tw40 : (Jvm.Cond.selects "PlanBranchesModel" ({ cls := "PlanBranchesModel", name := "isReady", desc := "(II)Z" } : Jvm.MethodName) ({ cls := "PlanBranchesModel", name := "isReady", desc := "(II)Z" } : Jvm.MethodName)) ∈ tbG := tbg 40 (by decide +kernel) (by decide +kernel)
theorem tw41 : (Jvm.Cond.selects "PlanBranchesModel" ({ cls := "PlanBranchesModel", name := "places", desc := "(II)I" } : Jvm.MethodName) ({ cls := "PlanBranchesModel", name := "places", desc := "(II)I" } : Jvm.MethodName)) ∈ tbG := tbg 41 (by decide +kernel) (by decide +kernel)
theorem tw42 : (Jvm.Cond.selects "PlanBranchesModel" ({ cls := "PlanBranchesModel", name := "becomes", desc := "(I)I" } : Jvm.MethodName) ({ cls := "PlanBranchesModel", name := "becomes", desc := "(I)I" } : Jvm.MethodName)) ∈ tbG := tbg 42 (by decide +kernel) (by decide +kernel)
theorem tw43 : (Jvm.Cond.selects "PlanBranchesModel" ({ cls := "PlanBranchesModel", name := "last", desc := "(I)I" } : Jvm.MethodName) ({ cls := "PlanBranchesModel", name := "last", desc := "(I)I" } : Jvm.MethodName)) ∈ tbG := tbg 43 (by decide +kernel) (by decide +kernel)
theorem tw44 : (Jvm.Cond.selects "PlanBranchesModel" ({ cls := "PlanBranchesModel", name := "byOrder", desc := "(II)I" } : Jvm.MethodName) ({ cls := "PlanBranchesModel", name := "byOrder", desc := "(II)I" } : Jvm.MethodName)) ∈ tbG := tbg 44 (by decide +kernel) (by decide +kernel)
theorem tw45 : (Jvm.Cond.selects "PlanBranchesModel" ({ cls := "PlanBranchesModel", name := "turns", desc := "(I)Z" } : Jvm.MethodName) ({ cls := "PlanBranchesModel", name := "turns", desc := "(I)Z" } : Jvm.MethodName)) ∈ tbG := tbg 45 (by decide +kernel) (by decide +kernel)
theorem tw46 : (Jvm.Cond.initialized "PlanBranchesLaw") ∈ tbG := tbg 46 (by decide +kernel) (by decide +kernel)
theorem tw47 : (Jvm.Cond.initialized "PlanBranches") ∈ tbG := tbg 47 (by decide +kernel) (by decide +kernel)
theorem tw48 : (Jvm.Cond.initialized "PlanBranches$Branch") ∈ tbG := tbg 48 (by decide +kernel) (by decide +kernel)
theorem tw49 : (Jvm.Cond.initialized "PlanBranches$Plan") ∈ tbG := tbg 49 (by decide +kernel) (by decide +kernel)
theorem tw50 : (Jvm.Cond.initialized "PlanBranches$History") ∈ tbG := tbg 50 (by decide +kernel) (by decide +kernel)
theorem tw51 : (Jvm.Cond.initialized "PlanBranches$Crews") ∈ tbG := tbg 51 (by decide +kernel) (by decide +kernel)
theorem tw52 : (Jvm.Cond.initialized "PlanBranches$Joint") ∈ tbG := tbg 52 (by decide +kernel) (by decide +kernel)
theorem tw53 : (Jvm.Cond.initialized "PlanBranches$Ways") ∈ tbG := tbg 53 (by decide +kernel) (by decide +kernel)
theorem tw54 : (Jvm.Cond.initialized "PlanBranches$Schedule") ∈ tbG := tbg 54 (by decide +kernel) (by decide +kernel)
theorem tw55 : (Jvm.Cond.initialized "PlanBranchesModel") ∈ tbG := tbg 55 (by decide +kernel) (by decide +kernel)
theorem tw56 : (Jvm.Cond.initialized "java/lang/Throwable") ∈ tbG := tbg 56 (by decide +kernel) (by decide +kernel)
theorem tw57 : (Jvm.Cond.initialized "java/lang/Exception") ∈ tbG := tbg 57 (by decide +kernel) (by decide +kernel)
theorem tw58 : (Jvm.Cond.initialized "java/lang/RuntimeException") ∈ tbG := tbg 58 (by decide +kernel) (by decide +kernel)
theorem tw59 : (Jvm.Cond.initialized "java/lang/IndexOutOfBoundsException") ∈ tbG := tbg 59 (by decide +kernel) (by decide +kernel)
theorem tw60 : (Jvm.Cond.initialized "java/lang/IllegalArgumentException") ∈ tbG := tbg 60 (by decide +kernel) (by decide +kernel)
theorem tw61 : (Jvm.Cond.initialized "java/lang/IllegalStateException") ∈ tbG := tbg 61 (by decide +kernel) (by decide +kernel)
theorem tw62 : (Jvm.Cond.initialized "java/lang/Math") ∈ tbG := tbg 62 (by decide +kernel) (by decide +kernel)
theorem tw63 : (Jvm.Cond.initialized "java/util/Arrays") ∈ tbG := tbg 63 (by decide +kernel) (by decide +kernel)
theorem tw64 : (Jvm.Cond.initialized "java/lang/Integer") ∈ tbG := tbg 64 (by decide +kernel) (by decide +kernel)
theorem tw65 : (Jvm.Cond.classLink "PlanBranchesLaw" (8 : Nat) "PlanBranches") ∈ tbG := tbg 65 (by decide +kernel) (by decide +kernel)
theorem tw66 : (Jvm.Cond.instantiable "PlanBranches" (7 : Nat)) ∈ tbG := tbg 66 (by decide +kernel) (by decide +kernel)
theorem tw67 : (Jvm.Cond.methodLink "PlanBranchesLaw" (112 : Nat) ({ cls := "PlanBranches", name := "<init>", desc := "()V" } : Jvm.MethodName)) ∈ tbG := tbg 67 (by decide +kernel) (by decide +kernel)
theorem tw68 : (Jvm.Cond.instanceMethod ({ cls := "PlanBranches", name := "<init>", desc := "()V" } : Jvm.MethodName)) ∈ tbG := tbg 68 (by decide +kernel) (by decide +kernel)
theorem tw69 : (Jvm.Cond.code ({ cls := "PlanBranches", name := "<init>", desc := "()V" } : Jvm.MethodName) prog_1_method_1_code (1 : Nat) (Option.none : Option Jvm.ClassFile.FieldType)) ∈ tbG := tbg 69 (by decide +kernel) (by decide +kernel)
theorem tw70 : (Jvm.Cond.methodLink "PlanBranches" (1 : Nat) ({ cls := "java/lang/Object", name := "<init>", desc := "()V" } : Jvm.MethodName)) ∈ tbG := tbg 70 (by decide +kernel) (by decide +kernel)
theorem tw71 : (Jvm.Cond.instanceMethod ({ cls := "java/lang/Object", name := "<init>", desc := "()V" } : Jvm.MethodName)) ∈ tbG := tbg 71 (by decide +kernel) (by decide +kernel)
theorem tw72 : (Jvm.Cond.code ({ cls := "java/lang/Object", name := "<init>", desc := "()V" } : Jvm.MethodName) object_method_1_code (1 : Nat) (Option.none : Option Jvm.ClassFile.FieldType)) ∈ tbG := tbg 72 (by decide +kernel) (by decide +kernel)
theorem tw73 : (Jvm.Cond.classLink "PlanBranches" (9 : Nat) "PlanBranches$Branch") ∈ tbG := tbg 73 (by decide +kernel) (by decide +kernel)
theorem tw75 : (Jvm.Cond.instantiable "PlanBranches$Branch" (7 : Nat)) ∈ tbG := tbg 75 (by decide +kernel) (by decide +kernel)
theorem tw76 : (Jvm.Cond.methodLink "PlanBranches" (15 : Nat) ({ cls := "PlanBranches$Branch", name := "<init>", desc := "(ILPlanBranches$Branch;)V" } : Jvm.MethodName)) ∈ tbG := tbg 76 (by decide +kernel) (by decide +kernel)
theorem tw77 : (Jvm.Cond.instanceMethod ({ cls := "PlanBranches$Branch", name := "<init>", desc := "(ILPlanBranches$Branch;)V" } : Jvm.MethodName)) ∈ tbG := tbg 77 (by decide +kernel) (by decide +kernel)
theorem tw78 : (Jvm.Cond.code ({ cls := "PlanBranches$Branch", name := "<init>", desc := "(ILPlanBranches$Branch;)V" } : Jvm.MethodName) prog_2_method_1_code (4 : Nat) (Option.none : Option Jvm.ClassFile.FieldType)) ∈ tbG := tbg 78 (by decide +kernel) (by decide +kernel)
theorem tw79 : (Jvm.Cond.methodLink "PlanBranches$Branch" (3 : Nat) ({ cls := "java/lang/Object", name := "<init>", desc := "()V" } : Jvm.MethodName)) ∈ tbG := tbg 79 (by decide +kernel) (by decide +kernel)
theorem tw80 : (Jvm.Cond.classLink "PlanBranches$Branch" (9 : Nat) "PlanBranches$Plan") ∈ tbG := tbg 80 (by decide +kernel) (by decide +kernel)
theorem tw81 : (Jvm.Cond.instantiable "PlanBranches$Plan" (4 : Nat)) ∈ tbG := tbg 81 (by decide +kernel) (by decide +kernel)
theorem tw82 : (Jvm.Cond.methodLink "PlanBranches$Branch" (11 : Nat) ({ cls := "PlanBranches$Plan", name := "<init>", desc := "()V" } : Jvm.MethodName)) ∈ tbG := tbg 82 (by decide +kernel) (by decide +kernel)
theorem tw83 : (Jvm.Cond.instanceMethod ({ cls := "PlanBranches$Plan", name := "<init>", desc := "()V" } : Jvm.MethodName)) ∈ tbG := tbg 83 (by decide +kernel) (by decide +kernel)
theorem tw84 : (Jvm.Cond.code ({ cls := "PlanBranches$Plan", name := "<init>", desc := "()V" } : Jvm.MethodName) prog_6_method_1_code (2 : Nat) (Option.none : Option Jvm.ClassFile.FieldType)) ∈ tbG := tbg 84 (by decide +kernel) (by decide +kernel)
theorem tw85 : (Jvm.Cond.methodLink "PlanBranches$Plan" (3 : Nat) ({ cls := "java/lang/Object", name := "<init>", desc := "()V" } : Jvm.MethodName)) ∈ tbG := tbg 85 (by decide +kernel) (by decide +kernel)
theorem tw86 : (Jvm.Cond.fieldLink "PlanBranches$Plan" (9 : Nat) "PlanBranches$Plan" "lengths" "[I") ∈ tbG := tbg 86 (by decide +kernel) (by decide +kernel)
theorem tw87 : (Jvm.Cond.fieldLink "PlanBranches$Ways" (18 : Nat) "PlanBranches$Plan" "lengths" "[I") ∈ tbG := tbg 87 (by decide +kernel) (by decide +kernel)
theorem tw88 : (Jvm.Cond.fieldLink "PlanBranches$History" (31 : Nat) "PlanBranches$Plan" "lengths" "[I") ∈ tbG := tbg 88 (by decide +kernel) (by decide +kernel)
theorem tw89 : (Jvm.Cond.fieldLink "PlanBranches" (106 : Nat) "PlanBranches$Plan" "lengths" "[I") ∈ tbG := tbg 89 (by decide +kernel) (by decide +kernel)
theorem tw90 : (Jvm.Cond.fieldLink "PlanBranches$Joint" (55 : Nat) "PlanBranches$Plan" "lengths" "[I") ∈ tbG := tbg 90 (by decide +kernel) (by decide +kernel)
theorem tw91 : (Jvm.Cond.fieldLink "PlanBranches$Schedule" (62 : Nat) "PlanBranches$Plan" "lengths" "[I") ∈ tbG := tbg 91 (by decide +kernel) (by decide +kernel)
theorem tw92 : (Jvm.Cond.fieldLink "PlanBranches$Plan" (15 : Nat) "PlanBranches$Plan" "crews" "[I") ∈ tbG := tbg 92 (by decide +kernel) (by decide +kernel)
theorem tw93 : (Jvm.Cond.fieldLink "PlanBranches$History" (34 : Nat) "PlanBranches$Plan" "crews" "[I") ∈ tbG := tbg 93 (by decide +kernel) (by decide +kernel)
theorem tw94 : (Jvm.Cond.fieldLink "PlanBranches$Joint" (62 : Nat) "PlanBranches$Plan" "crews" "[I") ∈ tbG := tbg 94 (by decide +kernel) (by decide +kernel)
theorem tw95 : (Jvm.Cond.fieldLink "PlanBranches$Schedule" (80 : Nat) "PlanBranches$Plan" "crews" "[I") ∈ tbG := tbg 95 (by decide +kernel) (by decide +kernel)
theorem tw96 : (Jvm.Cond.fieldLink "PlanBranches" (141 : Nat) "PlanBranches$Plan" "crews" "[I") ∈ tbG := tbg 96 (by decide +kernel) (by decide +kernel)
theorem tw97 : (Jvm.Cond.fieldLink "PlanBranches$Plan" (18 : Nat) "PlanBranches$Plan" "costs" "[I") ∈ tbG := tbg 97 (by decide +kernel) (by decide +kernel)
theorem tw98 : (Jvm.Cond.fieldLink "PlanBranches$History" (35 : Nat) "PlanBranches$Plan" "costs" "[I") ∈ tbG := tbg 98 (by decide +kernel) (by decide +kernel)
theorem tw99 : (Jvm.Cond.fieldLink "PlanBranches$Joint" (65 : Nat) "PlanBranches$Plan" "costs" "[I") ∈ tbG := tbg 99 (by decide +kernel) (by decide +kernel)
theorem tw100 : (Jvm.Cond.fieldLink "PlanBranches$Plan" (21 : Nat) "PlanBranches$Plan" "needs" "[I") ∈ tbG := tbg 100 (by decide +kernel) (by decide +kernel)
theorem tw101 : (Jvm.Cond.fieldLink "PlanBranches" (75 : Nat) "PlanBranches$Plan" "needs" "[I") ∈ tbG := tbg 101 (by decide +kernel) (by decide +kernel)
theorem tw102 : (Jvm.Cond.fieldLink "PlanBranches$History" (36 : Nat) "PlanBranches$Plan" "needs" "[I") ∈ tbG := tbg 102 (by decide +kernel) (by decide +kernel)
theorem tw103 : (Jvm.Cond.fieldLink "PlanBranches$Ways" (37 : Nat) "PlanBranches$Plan" "needs" "[I") ∈ tbG := tbg 103 (by decide +kernel) (by decide +kernel)
theorem tw104 : (Jvm.Cond.fieldLink "PlanBranches$Joint" (68 : Nat) "PlanBranches$Plan" "needs" "[I") ∈ tbG := tbg 104 (by decide +kernel) (by decide +kernel)
theorem tw105 : (Jvm.Cond.fieldLink "PlanBranches$Schedule" (77 : Nat) "PlanBranches$Plan" "needs" "[I") ∈ tbG := tbg 105 (by decide +kernel) (by decide +kernel)
theorem tw106 : (Jvm.Cond.laysFinal "PlanBranches$Plan" "PlanBranches$Plan" "lengths" "[I") ∈ tbG := tbg 106 (by decide +kernel) (by decide +kernel)
theorem tw108 : (Jvm.Cond.laysFinal "PlanBranches$Plan" "PlanBranches$Plan" "crews" "[I") ∈ tbG := tbg 108 (by decide +kernel) (by decide +kernel)
theorem tw110 : (Jvm.Cond.laysFinal "PlanBranches$Plan" "PlanBranches$Plan" "costs" "[I") ∈ tbG := tbg 110 (by decide +kernel) (by decide +kernel)
theorem tw112 : (Jvm.Cond.laysFinal "PlanBranches$Plan" "PlanBranches$Plan" "needs" "[I") ∈ tbG := tbg 112 (by decide +kernel) (by decide +kernel)
theorem tw115 : (Jvm.Cond.arrayClass Jvm.ClassFile.FieldType.int) ∈ tbG := tbg 115 (by decide +kernel) (by decide +kernel)
theorem tw116 : (Jvm.Cond.classLink "PlanBranches$Branch" (21 : Nat) "PlanBranches$History") ∈ tbG := tbg 116 (by decide +kernel) (by decide +kernel)
theorem tw117 : (Jvm.Cond.instantiable "PlanBranches$History" (7 : Nat)) ∈ tbG := tbg 117 (by decide +kernel) (by decide +kernel)
theorem tw118 : (Jvm.Cond.methodLinkNest "PlanBranches$Branch" (23 : Nat) ({ cls := "PlanBranches$History", name := "<init>", desc := "()V" } : Jvm.MethodName) "PlanBranches") ∈ tbX := tbx 118 (by decide +kernel) (by decide +kernel)
theorem tw119 : (Jvm.Cond.instanceMethod ({ cls := "PlanBranches$History", name := "<init>", desc := "()V" } : Jvm.MethodName)) ∈ tbG := tbg 119 (by decide +kernel) (by decide +kernel)
theorem tw120 : (Jvm.Cond.code ({ cls := "PlanBranches$History", name := "<init>", desc := "()V" } : Jvm.MethodName) prog_4_method_1_code (1 : Nat) (Option.none : Option Jvm.ClassFile.FieldType)) ∈ tbG := tbg 120 (by decide +kernel) (by decide +kernel)
theorem tw121 : (Jvm.Cond.methodLink "PlanBranches$History" (3 : Nat) ({ cls := "java/lang/Object", name := "<init>", desc := "()V" } : Jvm.MethodName)) ∈ tbG := tbg 121 (by decide +kernel) (by decide +kernel)
theorem tw122 : (Jvm.Cond.fieldLink "PlanBranches$History" (9 : Nat) "PlanBranches$History" "changed" "[I") ∈ tbG := tbg 122 (by decide +kernel) (by decide +kernel)
theorem tw123 : (Jvm.Cond.fieldLink "PlanBranches$History" (15 : Nat) "PlanBranches$History" "lengths" "[I") ∈ tbG := tbg 123 (by decide +kernel) (by decide +kernel)
theorem tw124 : (Jvm.Cond.fieldLink "PlanBranches$History" (18 : Nat) "PlanBranches$History" "crews" "[I") ∈ tbG := tbg 124 (by decide +kernel) (by decide +kernel)
theorem tw125 : (Jvm.Cond.fieldLink "PlanBranches$History" (21 : Nat) "PlanBranches$History" "costs" "[I") ∈ tbG := tbg 125 (by decide +kernel) (by decide +kernel)
theorem tw126 : (Jvm.Cond.fieldLink "PlanBranches$History" (24 : Nat) "PlanBranches$History" "needs" "[I") ∈ tbG := tbg 126 (by decide +kernel) (by decide +kernel)
theorem tw127 : (Jvm.Cond.fieldLink "PlanBranches$History" (27 : Nat) "PlanBranches$History" "next" "I") ∈ tbG := tbg 127 (by decide +kernel) (by decide +kernel)
theorem tw128 : (Jvm.Cond.fieldLink "PlanBranches$History" (37 : Nat) "PlanBranches$History" "size" "I") ∈ tbG := tbg 128 (by decide +kernel) (by decide +kernel)
theorem tw129 : (Jvm.Cond.fieldLink "PlanBranches" (128 : Nat) "PlanBranches$History" "size" "I") ∈ tbG := tbg 129 (by decide +kernel) (by decide +kernel)
theorem tw130 : (Jvm.Cond.laysFinal "PlanBranches$History" "PlanBranches$History" "changed" "[I") ∈ tbG := tbg 130 (by decide +kernel) (by decide +kernel)
theorem tw132 : (Jvm.Cond.laysFinal "PlanBranches$History" "PlanBranches$History" "lengths" "[I") ∈ tbG := tbg 132 (by decide +kernel) (by decide +kernel)
theorem tw134 : (Jvm.Cond.laysFinal "PlanBranches$History" "PlanBranches$History" "crews" "[I") ∈ tbG := tbg 134 (by decide +kernel) (by decide +kernel)
theorem tw136 : (Jvm.Cond.laysFinal "PlanBranches$History" "PlanBranches$History" "costs" "[I") ∈ tbG := tbg 136 (by decide +kernel) (by decide +kernel)
theorem tw138 : (Jvm.Cond.laysFinal "PlanBranches$History" "PlanBranches$History" "needs" "[I") ∈ tbG := tbg 138 (by decide +kernel) (by decide +kernel)
theorem tw140 : (Jvm.Cond.lays "PlanBranches$History" "PlanBranches$History" "next" "I") ∈ tbG := tbg 140 (by decide +kernel) (by decide +kernel)
theorem tw142 : (Jvm.Cond.lays "PlanBranches$History" "PlanBranches$History" "size" "I") ∈ tbG := tbg 142 (by decide +kernel) (by decide +kernel)
theorem tw145 : (Jvm.Cond.constant "PlanBranches$Branch" (32 : Nat) (1000000 : Int32)) ∈ tbG := tbg 145 (by decide +kernel) (by decide +kernel)
theorem tw146 : (Jvm.Cond.fieldLink "PlanBranches$Branch" (37 : Nat) "PlanBranches$Branch" "number" "I") ∈ tbG := tbg 146 (by decide +kernel) (by decide +kernel)
theorem tw147 : (Jvm.Cond.fieldLink "PlanBranches" (161 : Nat) "PlanBranches$Branch" "number" "I") ∈ tbG := tbg 147 (by decide +kernel) (by decide +kernel)
theorem tw148 : (Jvm.Cond.fieldLink "PlanBranches$Branch" (40 : Nat) "PlanBranches$Branch" "from" "LPlanBranches$Branch;") ∈ tbG := tbg 148 (by decide +kernel) (by decide +kernel)
theorem tw149 : (Jvm.Cond.fieldLink "PlanBranches" (157 : Nat) "PlanBranches$Branch" "from" "LPlanBranches$Branch;") ∈ tbG := tbg 149 (by decide +kernel) (by decide +kernel)
theorem tw150 : (Jvm.Cond.fieldLink "PlanBranches$Branch" (12 : Nat) "PlanBranches$Branch" "plan" "LPlanBranches$Plan;") ∈ tbG := tbg 150 (by decide +kernel) (by decide +kernel)
theorem tw151 : (Jvm.Cond.fieldLink "PlanBranches$Joint" (25 : Nat) "PlanBranches$Branch" "plan" "LPlanBranches$Plan;") ∈ tbG := tbg 151 (by decide +kernel) (by decide +kernel)
theorem tw152 : (Jvm.Cond.fieldLink "PlanBranches" (65 : Nat) "PlanBranches$Branch" "plan" "LPlanBranches$Plan;") ∈ tbG := tbg 152 (by decide +kernel) (by decide +kernel)
theorem tw153 : (Jvm.Cond.fieldLink "PlanBranches$Branch" (18 : Nat) "PlanBranches$Branch" "base" "LPlanBranches$Plan;") ∈ tbG := tbg 153 (by decide +kernel) (by decide +kernel)
theorem tw154 : (Jvm.Cond.fieldLink "PlanBranches$Joint" (28 : Nat) "PlanBranches$Branch" "base" "LPlanBranches$Plan;") ∈ tbG := tbg 154 (by decide +kernel) (by decide +kernel)
theorem tw155 : (Jvm.Cond.fieldLink "PlanBranches" (151 : Nat) "PlanBranches$Branch" "base" "LPlanBranches$Plan;") ∈ tbG := tbg 155 (by decide +kernel) (by decide +kernel)
theorem tw156 : (Jvm.Cond.fieldLink "PlanBranches$Branch" (24 : Nat) "PlanBranches$Branch" "history" "LPlanBranches$History;") ∈ tbG := tbg 156 (by decide +kernel) (by decide +kernel)
theorem tw157 : (Jvm.Cond.fieldLink "PlanBranches" (79 : Nat) "PlanBranches$Branch" "history" "LPlanBranches$History;") ∈ tbG := tbg 157 (by decide +kernel) (by decide +kernel)
theorem tw158 : (Jvm.Cond.fieldLink "PlanBranches$Branch" (28 : Nat) "PlanBranches$Branch" "sides" "[I") ∈ tbG := tbg 158 (by decide +kernel) (by decide +kernel)
theorem tw159 : (Jvm.Cond.fieldLink "PlanBranches$Joint" (35 : Nat) "PlanBranches$Branch" "sides" "[I") ∈ tbG := tbg 159 (by decide +kernel) (by decide +kernel)
theorem tw160 : (Jvm.Cond.fieldLink "PlanBranches" (170 : Nat) "PlanBranches$Branch" "sides" "[I") ∈ tbG := tbg 160 (by decide +kernel) (by decide +kernel)
theorem tw161 : (Jvm.Cond.fieldLink "PlanBranches$Branch" (33 : Nat) "PlanBranches$Branch" "budget" "I") ∈ tbG := tbg 161 (by decide +kernel) (by decide +kernel)
theorem tw162 : (Jvm.Cond.fieldLink "PlanBranches" (165 : Nat) "PlanBranches$Branch" "budget" "I") ∈ tbG := tbg 162 (by decide +kernel) (by decide +kernel)
theorem tw163 : (Jvm.Cond.laysFinal "PlanBranches$Branch" "PlanBranches$Branch" "number" "I") ∈ tbG := tbg 163 (by decide +kernel) (by decide +kernel)
theorem tw165 : (Jvm.Cond.laysFinal "PlanBranches$Branch" "PlanBranches$Branch" "from" "LPlanBranches$Branch;") ∈ tbG := tbg 165 (by decide +kernel) (by decide +kernel)
theorem tw167 : (Jvm.Cond.laysFinal "PlanBranches$Branch" "PlanBranches$Branch" "plan" "LPlanBranches$Plan;") ∈ tbG := tbg 167 (by decide +kernel) (by decide +kernel)
theorem tw169 : (Jvm.Cond.laysFinal "PlanBranches$Branch" "PlanBranches$Branch" "base" "LPlanBranches$Plan;") ∈ tbG := tbg 169 (by decide +kernel) (by decide +kernel)
theorem tw171 : (Jvm.Cond.laysFinal "PlanBranches$Branch" "PlanBranches$Branch" "history" "LPlanBranches$History;") ∈ tbG := tbg 171 (by decide +kernel) (by decide +kernel)
theorem tw173 : (Jvm.Cond.laysFinal "PlanBranches$Branch" "PlanBranches$Branch" "sides" "[I") ∈ tbG := tbg 173 (by decide +kernel) (by decide +kernel)
theorem tw175 : (Jvm.Cond.lays "PlanBranches$Branch" "PlanBranches$Branch" "budget" "I") ∈ tbG := tbg 175 (by decide +kernel) (by decide +kernel)
theorem tw178 : (Jvm.Cond.classLink "PlanBranches" (22 : Nat) "PlanBranches$Crews") ∈ tbG := tbg 178 (by decide +kernel) (by decide +kernel)
theorem tw179 : (Jvm.Cond.instantiable "PlanBranches$Crews" (3 : Nat)) ∈ tbG := tbg 179 (by decide +kernel) (by decide +kernel)
theorem tw180 : (Jvm.Cond.methodLink "PlanBranches" (24 : Nat) ({ cls := "PlanBranches$Crews", name := "<init>", desc := "()V" } : Jvm.MethodName)) ∈ tbG := tbg 180 (by decide +kernel) (by decide +kernel)
theorem tw181 : (Jvm.Cond.instanceMethod ({ cls := "PlanBranches$Crews", name := "<init>", desc := "()V" } : Jvm.MethodName)) ∈ tbG := tbg 181 (by decide +kernel) (by decide +kernel)
theorem tw182 : (Jvm.Cond.code ({ cls := "PlanBranches$Crews", name := "<init>", desc := "()V" } : Jvm.MethodName) prog_3_method_1_code (3 : Nat) (Option.none : Option Jvm.ClassFile.FieldType)) ∈ tbG := tbg 182 (by decide +kernel) (by decide +kernel)
theorem tw183 : (Jvm.Cond.methodLink "PlanBranches$Crews" (3 : Nat) ({ cls := "java/lang/Object", name := "<init>", desc := "()V" } : Jvm.MethodName)) ∈ tbG := tbg 183 (by decide +kernel) (by decide +kernel)
theorem tw184 : (Jvm.Cond.classLink "PlanBranches$Crews" (15 : Nat) "[[I") ∈ tbG := tbg 184 (by decide +kernel) (by decide +kernel)
theorem tw186 : (Jvm.Cond.fieldLink "PlanBranches$Crews" (9 : Nat) "PlanBranches$Crews" "owners" "[I") ∈ tbG := tbg 186 (by decide +kernel) (by decide +kernel)
theorem tw187 : (Jvm.Cond.fieldLink "PlanBranches" (203 : Nat) "PlanBranches$Crews" "owners" "[I") ∈ tbG := tbg 187 (by decide +kernel) (by decide +kernel)
theorem tw188 : (Jvm.Cond.fieldLink "PlanBranches$Crews" (17 : Nat) "PlanBranches$Crews" "borrowers" "[[I") ∈ tbG := tbg 188 (by decide +kernel) (by decide +kernel)
theorem tw189 : (Jvm.Cond.fieldLink "PlanBranches$Crews" (20 : Nat) "PlanBranches$Crews" "loanCount" "I") ∈ tbG := tbg 189 (by decide +kernel) (by decide +kernel)
theorem tw190 : (Jvm.Cond.fieldLink "PlanBranches" (206 : Nat) "PlanBranches$Crews" "loanCount" "I") ∈ tbG := tbg 190 (by decide +kernel) (by decide +kernel)
theorem tw191 : (Jvm.Cond.laysFinal "PlanBranches$Crews" "PlanBranches$Crews" "owners" "[I") ∈ tbG := tbg 191 (by decide +kernel) (by decide +kernel)
theorem tw193 : (Jvm.Cond.laysFinal "PlanBranches$Crews" "PlanBranches$Crews" "borrowers" "[[I") ∈ tbG := tbg 193 (by decide +kernel) (by decide +kernel)
theorem tw195 : (Jvm.Cond.lays "PlanBranches$Crews" "PlanBranches$Crews" "loanCount" "I") ∈ tbG := tbg 195 (by decide +kernel) (by decide +kernel)
theorem tw198 : (Jvm.Cond.classLink "PlanBranches" (29 : Nat) "PlanBranches$Joint") ∈ tbG := tbg 198 (by decide +kernel) (by decide +kernel)
theorem tw199 : (Jvm.Cond.instantiable "PlanBranches$Joint" (3 : Nat)) ∈ tbG := tbg 199 (by decide +kernel) (by decide +kernel)
theorem tw200 : (Jvm.Cond.methodLinkNest "PlanBranches" (31 : Nat) ({ cls := "PlanBranches$Joint", name := "<init>", desc := "()V" } : Jvm.MethodName) "PlanBranches") ∈ tbX := tbx 200 (by decide +kernel) (by decide +kernel)
theorem tw201 : (Jvm.Cond.instanceMethod ({ cls := "PlanBranches$Joint", name := "<init>", desc := "()V" } : Jvm.MethodName)) ∈ tbG := tbg 201 (by decide +kernel) (by decide +kernel)
theorem tw202 : (Jvm.Cond.code ({ cls := "PlanBranches$Joint", name := "<init>", desc := "()V" } : Jvm.MethodName) prog_5_method_1_code (1 : Nat) (Option.none : Option Jvm.ClassFile.FieldType)) ∈ tbG := tbg 202 (by decide +kernel) (by decide +kernel)
theorem tw203 : (Jvm.Cond.methodLink "PlanBranches$Joint" (3 : Nat) ({ cls := "java/lang/Object", name := "<init>", desc := "()V" } : Jvm.MethodName)) ∈ tbG := tbg 203 (by decide +kernel) (by decide +kernel)
theorem tw204 : (Jvm.Cond.classLink "PlanBranches$Joint" (9 : Nat) "PlanBranches$Plan") ∈ tbG := tbg 204 (by decide +kernel) (by decide +kernel)
theorem tw205 : (Jvm.Cond.methodLink "PlanBranches$Joint" (11 : Nat) ({ cls := "PlanBranches$Plan", name := "<init>", desc := "()V" } : Jvm.MethodName)) ∈ tbG := tbg 205 (by decide +kernel) (by decide +kernel)
theorem tw206 : (Jvm.Cond.fieldLink "PlanBranches$Joint" (12 : Nat) "PlanBranches$Joint" "plan" "LPlanBranches$Plan;") ∈ tbG := tbg 206 (by decide +kernel) (by decide +kernel)
theorem tw207 : (Jvm.Cond.fieldLink "PlanBranches" (193 : Nat) "PlanBranches$Joint" "plan" "LPlanBranches$Plan;") ∈ tbG := tbg 207 (by decide +kernel) (by decide +kernel)
theorem tw208 : (Jvm.Cond.fieldLink "PlanBranches$Joint" (18 : Nat) "PlanBranches$Joint" "clashing" "I") ∈ tbG := tbg 208 (by decide +kernel) (by decide +kernel)
theorem tw209 : (Jvm.Cond.fieldLink "PlanBranches" (177 : Nat) "PlanBranches$Joint" "clashing" "I") ∈ tbG := tbg 209 (by decide +kernel) (by decide +kernel)
theorem tw210 : (Jvm.Cond.fieldLink "PlanBranches$Joint" (22 : Nat) "PlanBranches$Joint" "unresolved" "I") ∈ tbG := tbg 210 (by decide +kernel) (by decide +kernel)
theorem tw211 : (Jvm.Cond.fieldLink "PlanBranches" (278 : Nat) "PlanBranches$Joint" "unresolved" "I") ∈ tbG := tbg 211 (by decide +kernel) (by decide +kernel)
theorem tw212 : (Jvm.Cond.laysFinal "PlanBranches$Joint" "PlanBranches$Joint" "plan" "LPlanBranches$Plan;") ∈ tbG := tbg 212 (by decide +kernel) (by decide +kernel)
theorem tw214 : (Jvm.Cond.lays "PlanBranches$Joint" "PlanBranches$Joint" "clashing" "I") ∈ tbG := tbg 214 (by decide +kernel) (by decide +kernel)
theorem tw216 : (Jvm.Cond.lays "PlanBranches$Joint" "PlanBranches$Joint" "unresolved" "I") ∈ tbG := tbg 216 (by decide +kernel) (by decide +kernel)
theorem tw219 : (Jvm.Cond.classLink "PlanBranches" (36 : Nat) "PlanBranches$Ways") ∈ tbG := tbg 219 (by decide +kernel) (by decide +kernel)
theorem tw220 : (Jvm.Cond.instantiable "PlanBranches$Ways" (3 : Nat)) ∈ tbG := tbg 220 (by decide +kernel) (by decide +kernel)
theorem tw221 : (Jvm.Cond.methodLinkNest "PlanBranches" (38 : Nat) ({ cls := "PlanBranches$Ways", name := "<init>", desc := "()V" } : Jvm.MethodName) "PlanBranches") ∈ tbX := tbx 221 (by decide +kernel) (by decide +kernel)
theorem tw222 : (Jvm.Cond.instanceMethod ({ cls := "PlanBranches$Ways", name := "<init>", desc := "()V" } : Jvm.MethodName)) ∈ tbG := tbg 222 (by decide +kernel) (by decide +kernel)
theorem tw223 : (Jvm.Cond.code ({ cls := "PlanBranches$Ways", name := "<init>", desc := "()V" } : Jvm.MethodName) prog_8_method_1_code (1 : Nat) (Option.none : Option Jvm.ClassFile.FieldType)) ∈ tbG := tbg 223 (by decide +kernel) (by decide +kernel)
theorem tw224 : (Jvm.Cond.methodLink "PlanBranches$Ways" (3 : Nat) ({ cls := "java/lang/Object", name := "<init>", desc := "()V" } : Jvm.MethodName)) ∈ tbG := tbg 224 (by decide +kernel) (by decide +kernel)
theorem tw225 : (Jvm.Cond.fieldLink "PlanBranches$Ways" (9 : Nat) "PlanBranches$Ways" "tails" "[I") ∈ tbG := tbg 225 (by decide +kernel) (by decide +kernel)
theorem tw226 : (Jvm.Cond.fieldLink "PlanBranches" (222 : Nat) "PlanBranches$Ways" "tails" "[I") ∈ tbG := tbg 226 (by decide +kernel) (by decide +kernel)
theorem tw227 : (Jvm.Cond.fieldLink "PlanBranches$Ways" (15 : Nat) "PlanBranches$Ways" "heads" "[I") ∈ tbG := tbg 227 (by decide +kernel) (by decide +kernel)
theorem tw228 : (Jvm.Cond.fieldLink "PlanBranches$Ways" (27 : Nat) "PlanBranches$Ways" "longest" "I") ∈ tbG := tbg 228 (by decide +kernel) (by decide +kernel)
theorem tw229 : (Jvm.Cond.fieldLink "PlanBranches" (228 : Nat) "PlanBranches$Ways" "longest" "I") ∈ tbG := tbg 229 (by decide +kernel) (by decide +kernel)
theorem tw230 : (Jvm.Cond.laysFinal "PlanBranches$Ways" "PlanBranches$Ways" "tails" "[I") ∈ tbG := tbg 230 (by decide +kernel) (by decide +kernel)
theorem tw232 : (Jvm.Cond.laysFinal "PlanBranches$Ways" "PlanBranches$Ways" "heads" "[I") ∈ tbG := tbg 232 (by decide +kernel) (by decide +kernel)
theorem tw234 : (Jvm.Cond.lays "PlanBranches$Ways" "PlanBranches$Ways" "longest" "I") ∈ tbG := tbg 234 (by decide +kernel) (by decide +kernel)
theorem tw237 : (Jvm.Cond.classLink "PlanBranches" (43 : Nat) "PlanBranches$Schedule") ∈ tbG := tbg 237 (by decide +kernel) (by decide +kernel)
theorem tw238 : (Jvm.Cond.instantiable "PlanBranches$Schedule" (3 : Nat)) ∈ tbG := tbg 238 (by decide +kernel) (by decide +kernel)
theorem tw239 : (Jvm.Cond.methodLinkNest "PlanBranches" (45 : Nat) ({ cls := "PlanBranches$Schedule", name := "<init>", desc := "()V" } : Jvm.MethodName) "PlanBranches") ∈ tbX := tbx 239 (by decide +kernel) (by decide +kernel)
theorem tw240 : (Jvm.Cond.instanceMethod ({ cls := "PlanBranches$Schedule", name := "<init>", desc := "()V" } : Jvm.MethodName)) ∈ tbG := tbg 240 (by decide +kernel) (by decide +kernel)
theorem tw241 : (Jvm.Cond.code ({ cls := "PlanBranches$Schedule", name := "<init>", desc := "()V" } : Jvm.MethodName) prog_7_method_1_code (1 : Nat) (Option.none : Option Jvm.ClassFile.FieldType)) ∈ tbG := tbg 241 (by decide +kernel) (by decide +kernel)
theorem tw242 : (Jvm.Cond.methodLink "PlanBranches$Schedule" (3 : Nat) ({ cls := "java/lang/Object", name := "<init>", desc := "()V" } : Jvm.MethodName)) ∈ tbG := tbg 242 (by decide +kernel) (by decide +kernel)
theorem tw243 : (Jvm.Cond.classLink "PlanBranches$Schedule" (15 : Nat) "[[I") ∈ tbG := tbg 243 (by decide +kernel) (by decide +kernel)
theorem tw244 : (Jvm.Cond.fieldLink "PlanBranches$Schedule" (9 : Nat) "PlanBranches$Schedule" "firstDays" "[I") ∈ tbG := tbg 244 (by decide +kernel) (by decide +kernel)
theorem tw245 : (Jvm.Cond.fieldLink "PlanBranches" (235 : Nat) "PlanBranches$Schedule" "firstDays" "[I") ∈ tbG := tbg 245 (by decide +kernel) (by decide +kernel)
theorem tw246 : (Jvm.Cond.fieldLink "PlanBranches$Schedule" (17 : Nat) "PlanBranches$Schedule" "work" "[[I") ∈ tbG := tbg 246 (by decide +kernel) (by decide +kernel)
theorem tw247 : (Jvm.Cond.fieldLink "PlanBranches" (258 : Nat) "PlanBranches$Schedule" "work" "[[I") ∈ tbG := tbg 247 (by decide +kernel) (by decide +kernel)
theorem tw248 : (Jvm.Cond.fieldLink "PlanBranches$Schedule" (20 : Nat) "PlanBranches$Schedule" "placed" "I") ∈ tbG := tbg 248 (by decide +kernel) (by decide +kernel)
theorem tw249 : (Jvm.Cond.fieldLink "PlanBranches" (238 : Nat) "PlanBranches$Schedule" "placed" "I") ∈ tbG := tbg 249 (by decide +kernel) (by decide +kernel)
theorem tw250 : (Jvm.Cond.laysFinal "PlanBranches$Schedule" "PlanBranches$Schedule" "firstDays" "[I") ∈ tbG := tbg 250 (by decide +kernel) (by decide +kernel)
theorem tw252 : (Jvm.Cond.laysFinal "PlanBranches$Schedule" "PlanBranches$Schedule" "work" "[[I") ∈ tbG := tbg 252 (by decide +kernel) (by decide +kernel)
theorem tw254 : (Jvm.Cond.lays "PlanBranches$Schedule" "PlanBranches$Schedule" "placed" "I") ∈ tbG := tbg 254 (by decide +kernel) (by decide +kernel)
theorem tw257 : (Jvm.Cond.fieldLink "PlanBranches" (11 : Nat) "PlanBranches" "begun" "[LPlanBranches$Branch;") ∈ tbG := tbg 257 (by decide +kernel) (by decide +kernel)
theorem tw258 : (Jvm.Cond.fieldLink "PlanBranches" (18 : Nat) "PlanBranches" "begunCount" "I") ∈ tbG := tbg 258 (by decide +kernel) (by decide +kernel)
theorem tw259 : (Jvm.Cond.fieldLink "PlanBranches" (25 : Nat) "PlanBranches" "crews" "LPlanBranches$Crews;") ∈ tbG := tbg 259 (by decide +kernel) (by decide +kernel)
theorem tw260 : (Jvm.Cond.fieldLink "PlanBranches" (32 : Nat) "PlanBranches" "joint" "LPlanBranches$Joint;") ∈ tbG := tbg 260 (by decide +kernel) (by decide +kernel)
theorem tw261 : (Jvm.Cond.fieldLink "PlanBranches" (39 : Nat) "PlanBranches" "ways" "LPlanBranches$Ways;") ∈ tbG := tbg 261 (by decide +kernel) (by decide +kernel)
theorem tw262 : (Jvm.Cond.fieldLink "PlanBranches" (46 : Nat) "PlanBranches" "schedule" "LPlanBranches$Schedule;") ∈ tbG := tbg 262 (by decide +kernel) (by decide +kernel)
theorem tw263 : (Jvm.Cond.fieldLink "PlanBranches" (50 : Nat) "PlanBranches" "because" "I") ∈ tbG := tbg 263 (by decide +kernel) (by decide +kernel)
theorem tw264 : (Jvm.Cond.laysFinal "PlanBranches" "PlanBranches" "begun" "[LPlanBranches$Branch;") ∈ tbG := tbg 264 (by decide +kernel) (by decide +kernel)
theorem tw266 : (Jvm.Cond.lays "PlanBranches" "PlanBranches" "begunCount" "I") ∈ tbG := tbg 266 (by decide +kernel) (by decide +kernel)
theorem tw268 : (Jvm.Cond.laysFinal "PlanBranches" "PlanBranches" "crews" "LPlanBranches$Crews;") ∈ tbG := tbg 268 (by decide +kernel) (by decide +kernel)
theorem tw270 : (Jvm.Cond.laysFinal "PlanBranches" "PlanBranches" "joint" "LPlanBranches$Joint;") ∈ tbG := tbg 270 (by decide +kernel) (by decide +kernel)
theorem tw272 : (Jvm.Cond.laysFinal "PlanBranches" "PlanBranches" "ways" "LPlanBranches$Ways;") ∈ tbG := tbg 272 (by decide +kernel) (by decide +kernel)
theorem tw274 : (Jvm.Cond.laysFinal "PlanBranches" "PlanBranches" "schedule" "LPlanBranches$Schedule;") ∈ tbG := tbg 274 (by decide +kernel) (by decide +kernel)
theorem tw276 : (Jvm.Cond.lays "PlanBranches" "PlanBranches" "because" "I") ∈ tbG := tbg 276 (by decide +kernel) (by decide +kernel)
theorem tw279 : (Jvm.Cond.methodLink "PlanBranchesLaw" (156 : Nat) ({ cls := "PlanBranches", name := "branches", desc := "()I" } : Jvm.MethodName)) ∈ tbG := tbg 279 (by decide +kernel) (by decide +kernel)
theorem tw280 : (Jvm.Cond.instanceMethod ({ cls := "PlanBranches", name := "branches", desc := "()I" } : Jvm.MethodName)) ∈ tbG := tbg 280 (by decide +kernel) (by decide +kernel)
theorem tw281 : (Jvm.Cond.selects "PlanBranches" ({ cls := "PlanBranches", name := "branches", desc := "()I" } : Jvm.MethodName) ({ cls := "PlanBranches", name := "branches", desc := "()I" } : Jvm.MethodName)) ∈ tbG := tbg 281 (by decide +kernel) (by decide +kernel)
theorem tw282 : (Jvm.Cond.code ({ cls := "PlanBranches", name := "branches", desc := "()I" } : Jvm.MethodName) prog_1_method_12_code (1 : Nat) (Option.some Jvm.ClassFile.FieldType.int)) ∈ tbG := tbg 282 (by decide +kernel) (by decide +kernel)
theorem tw283 : (Jvm.Cond.methodLink "PlanBranchesLaw" (116 : Nat) ({ cls := "PlanBranchesLaw", name := "setTask", desc := "(LPlanBranches;IIIII[J)I" } : Jvm.MethodName)) ∈ tbG := tbg 283 (by decide +kernel) (by decide +kernel)
theorem tw284 : (Jvm.Cond.static ({ cls := "PlanBranchesLaw", name := "setTask", desc := "(LPlanBranches;IIIII[J)I" } : Jvm.MethodName)) ∈ tbG := tbg 284 (by decide +kernel) (by decide +kernel)
theorem tw285 : (Jvm.Cond.codeWith ({ cls := "PlanBranchesLaw", name := "setTask", desc := "(LPlanBranches;IIIII[J)I" } : Jvm.MethodName) method_3_code (8 : Nat) (Option.some Jvm.ClassFile.FieldType.int) [((0 : Nat), (23 : Nat), (26 : Nat), (13 : Nat)), ((0 : Nat), (23 : Nat), (30 : Nat), (15 : Nat))]) ∈ tbG := tbg 285 (by decide +kernel) (by decide +kernel)
theorem tw286 : (Jvm.Cond.classLink "PlanBranchesLaw" (13 : Nat) "java/lang/IndexOutOfBoundsException") ∈ tbG := tbg 286 (by decide +kernel) (by decide +kernel)
theorem tw287 : (Jvm.Cond.classLink "PlanBranchesLaw" (15 : Nat) "java/lang/IllegalArgumentException") ∈ tbG := tbg 287 (by decide +kernel) (by decide +kernel)
theorem tw288 : (Jvm.Cond.methodLink "PlanBranchesLaw" (7 : Nat) ({ cls := "PlanBranches", name := "setTask", desc := "(IIIII)Z" } : Jvm.MethodName)) ∈ tbG := tbg 288 (by decide +kernel) (by decide +kernel)
theorem tw289 : (Jvm.Cond.instanceMethod ({ cls := "PlanBranches", name := "setTask", desc := "(IIIII)Z" } : Jvm.MethodName)) ∈ tbG := tbg 289 (by decide +kernel) (by decide +kernel)
theorem tw290 : (Jvm.Cond.selects "PlanBranches" ({ cls := "PlanBranches", name := "setTask", desc := "(IIIII)Z" } : Jvm.MethodName) ({ cls := "PlanBranches", name := "setTask", desc := "(IIIII)Z" } : Jvm.MethodName)) ∈ tbG := tbg 290 (by decide +kernel) (by decide +kernel)
theorem tw291 : (Jvm.Cond.code ({ cls := "PlanBranches", name := "setTask", desc := "(IIIII)Z" } : Jvm.MethodName) prog_1_method_2_code (9 : Nat) (Option.some Jvm.ClassFile.FieldType.boolean)) ∈ tbG := tbg 291 (by decide +kernel) (by decide +kernel)
theorem tw292 : (Jvm.Cond.methodLink "PlanBranches" (53 : Nat) ({ cls := "PlanBranches", name := "branchAt", desc := "(I)LPlanBranches$Branch;" } : Jvm.MethodName)) ∈ tbG := tbg 292 (by decide +kernel) (by decide +kernel)
theorem tw294 : (Jvm.Cond.instanceMethod ({ cls := "PlanBranches", name := "branchAt", desc := "(I)LPlanBranches$Branch;" } : Jvm.MethodName)) ∈ tbG := tbg 294 (by decide +kernel) (by decide +kernel)
theorem tw295 : (Jvm.Cond.code ({ cls := "PlanBranches", name := "branchAt", desc := "(I)LPlanBranches$Branch;" } : Jvm.MethodName) prog_1_method_33_code (3 : Nat) (Option.some (Jvm.ClassFile.FieldType.object "PlanBranches$Branch"))) ∈ tbG := tbg 295 (by decide +kernel) (by decide +kernel)
theorem tw296 : (Jvm.Cond.classLink "PlanBranches" (267 : Nat) "java/lang/IndexOutOfBoundsException") ∈ tbG := tbg 296 (by decide +kernel) (by decide +kernel)
theorem tw297 : (Jvm.Cond.instantiable "java/lang/IndexOutOfBoundsException" (6 : Nat)) ∈ tbG := tbg 297 (by decide +kernel) (by decide +kernel)
theorem tw298 : (Jvm.Cond.castable "java/lang/IndexOutOfBoundsException" "java/lang/IndexOutOfBoundsException") ∈ tbX := tbx 298 (by decide +kernel) (by decide +kernel)
theorem tw299 : (Jvm.Cond.declares ({ cls := "java/lang/RuntimeException", name := "<init>", desc := "()V" } : Jvm.MethodName)) ∈ tbX := tbx 299 (by decide +kernel) (by decide +kernel)
theorem tw300 : (Jvm.Cond.declares ({ cls := "java/lang/RuntimeException", name := "<init>", desc := "(Ljava/lang/String;)V" } : Jvm.MethodName)) ∈ tbX := tbx 300 (by decide +kernel) (by decide +kernel)
theorem tw301 : (Jvm.Cond.declares ({ cls := "java/lang/Exception", name := "<init>", desc := "()V" } : Jvm.MethodName)) ∈ tbX := tbx 301 (by decide +kernel) (by decide +kernel)
theorem tw302 : (Jvm.Cond.declares ({ cls := "java/lang/Exception", name := "<init>", desc := "(Ljava/lang/String;)V" } : Jvm.MethodName)) ∈ tbX := tbx 302 (by decide +kernel) (by decide +kernel)
theorem tw303 : (Jvm.Cond.declares ({ cls := "java/lang/Throwable", name := "<init>", desc := "()V" } : Jvm.MethodName)) ∈ tbX := tbx 303 (by decide +kernel) (by decide +kernel)
theorem tw304 : (Jvm.Cond.declares ({ cls := "java/lang/Throwable", name := "<init>", desc := "(Ljava/lang/String;)V" } : Jvm.MethodName)) ∈ tbX := tbx 304 (by decide +kernel) (by decide +kernel)
theorem tw305 : (Jvm.Cond.selects "java/lang/IndexOutOfBoundsException" ({ cls := "java/lang/Throwable", name := "fillInStackTrace", desc := "(I)Ljava/lang/Throwable;" } : Jvm.MethodName) ({ cls := "java/lang/Throwable", name := "fillInStackTrace", desc := "(I)Ljava/lang/Throwable;" } : Jvm.MethodName)) ∈ tbG := tbg 305 (by decide +kernel) (by decide +kernel)
theorem tw306 : (Jvm.Cond.selects "java/lang/IndexOutOfBoundsException" ({ cls := "java/lang/Throwable", name := "fillInStackTrace", desc := "()Ljava/lang/Throwable;" } : Jvm.MethodName) ({ cls := "java/lang/Throwable", name := "fillInStackTrace", desc := "()Ljava/lang/Throwable;" } : Jvm.MethodName)) ∈ tbG := tbg 306 (by decide +kernel) (by decide +kernel)
theorem tw307 : (Jvm.Cond.lays "java/lang/IndexOutOfBoundsException" "java/lang/Throwable" "cause" "Ljava/lang/Throwable;") ∈ tbG := tbg 307 (by decide +kernel) (by decide +kernel)
theorem tw308 : (Jvm.Cond.lays "java/lang/Throwable" "java/lang/Throwable" "cause" "Ljava/lang/Throwable;") ∈ tbG := tbg 308 (by decide +kernel) (by decide +kernel)
theorem tw309 : (Jvm.Cond.lays "java/lang/IndexOutOfBoundsException" "java/lang/Throwable" "stackTrace" "[Ljava/lang/StackTraceElement;") ∈ tbG := tbg 309 (by decide +kernel) (by decide +kernel)
theorem tw310 : (Jvm.Cond.lays "java/lang/Throwable" "java/lang/Throwable" "stackTrace" "[Ljava/lang/StackTraceElement;") ∈ tbG := tbg 310 (by decide +kernel) (by decide +kernel)
theorem tw311 : (Jvm.Cond.lays "java/lang/IndexOutOfBoundsException" "java/lang/Throwable" "suppressedExceptions" "Ljava/util/List;") ∈ tbG := tbg 311 (by decide +kernel) (by decide +kernel)
theorem tw312 : (Jvm.Cond.lays "java/lang/Throwable" "java/lang/Throwable" "suppressedExceptions" "Ljava/util/List;") ∈ tbG := tbg 312 (by decide +kernel) (by decide +kernel)
theorem tw313 : (Jvm.Cond.lays "java/lang/IndexOutOfBoundsException" "java/lang/Throwable" "detailMessage" "Ljava/lang/String;") ∈ tbG := tbg 313 (by decide +kernel) (by decide +kernel)
theorem tw314 : (Jvm.Cond.lays "java/lang/Throwable" "java/lang/Throwable" "detailMessage" "Ljava/lang/String;") ∈ tbG := tbg 314 (by decide +kernel) (by decide +kernel)
theorem tw315 : (Jvm.Cond.lays "java/lang/IndexOutOfBoundsException" "java/lang/Throwable" "backtrace" "Ljava/lang/Object;") ∈ tbG := tbg 315 (by decide +kernel) (by decide +kernel)
theorem tw316 : (Jvm.Cond.lays "java/lang/Throwable" "java/lang/Throwable" "backtrace" "Ljava/lang/Object;") ∈ tbG := tbg 316 (by decide +kernel) (by decide +kernel)
theorem tw317 : (Jvm.Cond.fieldLink "java/lang/Throwable" (198 : Nat) "java/lang/Throwable" "backtrace" "Ljava/lang/Object;") ∈ tbG := tbg 317 (by decide +kernel) (by decide +kernel)
theorem tw319 : (Jvm.Cond.instanceMethod ({ cls := "java/lang/Throwable", name := "<init>", desc := "()V" } : Jvm.MethodName)) ∈ tbG := tbg 319 (by decide +kernel) (by decide +kernel)
theorem tw320 : (Jvm.Cond.code ({ cls := "java/lang/Throwable", name := "<init>", desc := "()V" } : Jvm.MethodName) prog_19_method_1_code (1 : Nat) (Option.none : Option Jvm.ClassFile.FieldType)) ∈ tbG := tbg 320 (by decide +kernel) (by decide +kernel)
theorem tw321 : (Jvm.Cond.methodLink "java/lang/Throwable" (1 : Nat) ({ cls := "java/lang/Object", name := "<init>", desc := "()V" } : Jvm.MethodName)) ∈ tbG := tbg 321 (by decide +kernel) (by decide +kernel)
theorem tw322 : (Jvm.Cond.fieldLink "java/lang/Throwable" (13 : Nat) "java/lang/Throwable" "UNASSIGNED_STACK" "[Ljava/lang/StackTraceElement;") ∈ tbG := tbg 322 (by decide +kernel) (by decide +kernel)
theorem tw324 : (Jvm.Cond.fieldLink "java/lang/Throwable" (20 : Nat) "java/lang/Throwable" "SUPPRESSED_SENTINEL" "Ljava/util/List;") ∈ tbG := tbg 324 (by decide +kernel) (by decide +kernel)
theorem tw326 : (Jvm.Cond.methodLink "java/lang/Throwable" (27 : Nat) ({ cls := "java/lang/Throwable", name := "fillInStackTrace", desc := "()Ljava/lang/Throwable;" } : Jvm.MethodName)) ∈ tbG := tbg 326 (by decide +kernel) (by decide +kernel)
theorem tw327 : (Jvm.Cond.instanceMethod ({ cls := "java/lang/Throwable", name := "fillInStackTrace", desc := "()Ljava/lang/Throwable;" } : Jvm.MethodName)) ∈ tbG := tbg 327 (by decide +kernel) (by decide +kernel)
theorem tw329 : (Jvm.Cond.selects "java/lang/IllegalArgumentException" ({ cls := "java/lang/Throwable", name := "fillInStackTrace", desc := "()Ljava/lang/Throwable;" } : Jvm.MethodName) ({ cls := "java/lang/Throwable", name := "fillInStackTrace", desc := "()Ljava/lang/Throwable;" } : Jvm.MethodName)) ∈ tbG := tbg 329 (by decide +kernel) (by decide +kernel)
theorem tw330 : (Jvm.Cond.selects "java/lang/IllegalStateException" ({ cls := "java/lang/Throwable", name := "fillInStackTrace", desc := "()Ljava/lang/Throwable;" } : Jvm.MethodName) ({ cls := "java/lang/Throwable", name := "fillInStackTrace", desc := "()Ljava/lang/Throwable;" } : Jvm.MethodName)) ∈ tbG := tbg 330 (by decide +kernel) (by decide +kernel)
theorem tw332 : (Jvm.Cond.methodLink "java/lang/Throwable" (202 : Nat) ({ cls := "java/lang/Throwable", name := "fillInStackTrace", desc := "(I)Ljava/lang/Throwable;" } : Jvm.MethodName)) ∈ tbG := tbg 332 (by decide +kernel) (by decide +kernel)
theorem tw334 : (Jvm.Cond.instanceMethod ({ cls := "java/lang/Throwable", name := "fillInStackTrace", desc := "(I)Ljava/lang/Throwable;" } : Jvm.MethodName)) ∈ tbG := tbg 334 (by decide +kernel) (by decide +kernel)
theorem tw335 : (Jvm.Cond.instantiable "java/lang/Throwable" (6 : Nat)) ∈ tbG := tbg 335 (by decide +kernel) (by decide +kernel)
theorem tw338 : (Jvm.Cond.methodLink "PlanBranches" (271 : Nat) ({ cls := "java/lang/IndexOutOfBoundsException", name := "<init>", desc := "(Ljava/lang/String;)V" } : Jvm.MethodName)) ∈ tbG := tbg 338 (by decide +kernel) (by decide +kernel)
theorem tw339 : (Jvm.Cond.instanceMethod ({ cls := "java/lang/IndexOutOfBoundsException", name := "<init>", desc := "(Ljava/lang/String;)V" } : Jvm.MethodName)) ∈ tbG := tbg 339 (by decide +kernel) (by decide +kernel)
theorem tw340 : (Jvm.Cond.code ({ cls := "java/lang/IndexOutOfBoundsException", name := "<init>", desc := "(Ljava/lang/String;)V" } : Jvm.MethodName) prog_14_method_2_code (2 : Nat) (Option.none : Option Jvm.ClassFile.FieldType)) ∈ tbG := tbg 340 (by decide +kernel) (by decide +kernel)
theorem tw341 : (Jvm.Cond.methodLink "java/lang/IndexOutOfBoundsException" (7 : Nat) ({ cls := "java/lang/RuntimeException", name := "<init>", desc := "(Ljava/lang/String;)V" } : Jvm.MethodName)) ∈ tbG := tbg 341 (by decide +kernel) (by decide +kernel)
theorem tw342 : (Jvm.Cond.instanceMethod ({ cls := "java/lang/RuntimeException", name := "<init>", desc := "(Ljava/lang/String;)V" } : Jvm.MethodName)) ∈ tbG := tbg 342 (by decide +kernel) (by decide +kernel)
theorem tw343 : (Jvm.Cond.code ({ cls := "java/lang/RuntimeException", name := "<init>", desc := "(Ljava/lang/String;)V" } : Jvm.MethodName) prog_17_method_2_code (2 : Nat) (Option.none : Option Jvm.ClassFile.FieldType)) ∈ tbG := tbg 343 (by decide +kernel) (by decide +kernel)
theorem tw344 : (Jvm.Cond.methodLink "java/lang/RuntimeException" (7 : Nat) ({ cls := "java/lang/Exception", name := "<init>", desc := "(Ljava/lang/String;)V" } : Jvm.MethodName)) ∈ tbG := tbg 344 (by decide +kernel) (by decide +kernel)
theorem tw345 : (Jvm.Cond.instanceMethod ({ cls := "java/lang/Exception", name := "<init>", desc := "(Ljava/lang/String;)V" } : Jvm.MethodName)) ∈ tbG := tbg 345 (by decide +kernel) (by decide +kernel)
theorem tw346 : (Jvm.Cond.code ({ cls := "java/lang/Exception", name := "<init>", desc := "(Ljava/lang/String;)V" } : Jvm.MethodName) prog_11_method_2_code (2 : Nat) (Option.none : Option Jvm.ClassFile.FieldType)) ∈ tbG := tbg 346 (by decide +kernel) (by decide +kernel)
theorem tw347 : (Jvm.Cond.methodLink "java/lang/Exception" (7 : Nat) ({ cls := "java/lang/Throwable", name := "<init>", desc := "(Ljava/lang/String;)V" } : Jvm.MethodName)) ∈ tbG := tbg 347 (by decide +kernel) (by decide +kernel)
theorem tw348 : (Jvm.Cond.instanceMethod ({ cls := "java/lang/Throwable", name := "<init>", desc := "(Ljava/lang/String;)V" } : Jvm.MethodName)) ∈ tbG := tbg 348 (by decide +kernel) (by decide +kernel)
theorem tw349 : (Jvm.Cond.code ({ cls := "java/lang/Throwable", name := "<init>", desc := "(Ljava/lang/String;)V" } : Jvm.MethodName) prog_19_method_2_code (2 : Nat) (Option.none : Option Jvm.ClassFile.FieldType)) ∈ tbG := tbg 349 (by decide +kernel) (by decide +kernel)
theorem tw350 : (Jvm.Cond.fieldLink "java/lang/Throwable" (198 : Nat) "java/lang/Throwable" "backtrace" "Ljava/lang/Object;") ∈ tbG := tbg 350 (by decide +kernel) (by decide +kernel)
theorem tw351 : (Jvm.Cond.fieldLink "java/lang/Throwable" (31 : Nat) "java/lang/Throwable" "detailMessage" "Ljava/lang/String;") ∈ tbG := tbg 351 (by decide +kernel) (by decide +kernel)
theorem tw352 : (Jvm.Cond.fieldLink "java/lang/Throwable" (7 : Nat) "java/lang/Throwable" "cause" "Ljava/lang/Throwable;") ∈ tbG := tbg 352 (by decide +kernel) (by decide +kernel)
theorem tw353 : (Jvm.Cond.fieldLink "java/lang/Throwable" (17 : Nat) "java/lang/Throwable" "stackTrace" "[Ljava/lang/StackTraceElement;") ∈ tbG := tbg 353 (by decide +kernel) (by decide +kernel)
theorem tw354 : (Jvm.Cond.fieldLink "java/lang/Throwable" (24 : Nat) "java/lang/Throwable" "suppressedExceptions" "Ljava/util/List;") ∈ tbG := tbg 354 (by decide +kernel) (by decide +kernel)
theorem tw359 : (Jvm.Cond.lays "java/lang/IndexOutOfBoundsException" "java/lang/Throwable" "depth" "I") ∈ tbG := tbg 359 (by decide +kernel) (by decide +kernel)
theorem tw363 : (Jvm.Cond.arrayClass Jvm.ClassFile.FieldType.byte) ∈ tbG := tbg 363 (by decide +kernel) (by decide +kernel)
theorem tw364 : (Jvm.Cond.methodLink "PlanBranches" (57 : Nat) ({ cls := "PlanBranches", name := "checkTask", desc := "(I)V" } : Jvm.MethodName)) ∈ tbG := tbg 364 (by decide +kernel) (by decide +kernel)
theorem tw365 : (Jvm.Cond.static ({ cls := "PlanBranches", name := "checkTask", desc := "(I)V" } : Jvm.MethodName)) ∈ tbG := tbg 365 (by decide +kernel) (by decide +kernel)
theorem tw366 : (Jvm.Cond.code ({ cls := "PlanBranches", name := "checkTask", desc := "(I)V" } : Jvm.MethodName) prog_1_method_35_code (1 : Nat) (Option.none : Option Jvm.ClassFile.FieldType)) ∈ tbG := tbg 366 (by decide +kernel) (by decide +kernel)
theorem tw367 : (Jvm.Cond.methodLink "PlanBranches" (61 : Nat) ({ cls := "PlanBranches", name := "checkRange", desc := "(III)V" } : Jvm.MethodName)) ∈ tbG := tbg 367 (by decide +kernel) (by decide +kernel)
theorem tw368 : (Jvm.Cond.static ({ cls := "PlanBranches", name := "checkRange", desc := "(III)V" } : Jvm.MethodName)) ∈ tbG := tbg 368 (by decide +kernel) (by decide +kernel)
theorem tw369 : (Jvm.Cond.code ({ cls := "PlanBranches", name := "checkRange", desc := "(III)V" } : Jvm.MethodName) prog_1_method_36_code (3 : Nat) (Option.none : Option Jvm.ClassFile.FieldType)) ∈ tbG := tbg 369 (by decide +kernel) (by decide +kernel)
theorem tw370 : (Jvm.Cond.classLink "PlanBranches" (112 : Nat) "java/lang/IllegalArgumentException") ∈ tbG := tbg 370 (by decide +kernel) (by decide +kernel)
theorem tw371 : (Jvm.Cond.instantiable "java/lang/IllegalArgumentException" (6 : Nat)) ∈ tbG := tbg 371 (by decide +kernel) (by decide +kernel)
theorem tw372 : (Jvm.Cond.castable "java/lang/IllegalArgumentException" "java/lang/IllegalArgumentException") ∈ tbX := tbx 372 (by decide +kernel) (by decide +kernel)
theorem tw373 : (Jvm.Cond.selects "java/lang/IllegalArgumentException" ({ cls := "java/lang/Throwable", name := "fillInStackTrace", desc := "(I)Ljava/lang/Throwable;" } : Jvm.MethodName) ({ cls := "java/lang/Throwable", name := "fillInStackTrace", desc := "(I)Ljava/lang/Throwable;" } : Jvm.MethodName)) ∈ tbG := tbg 373 (by decide +kernel) (by decide +kernel)
theorem tw374 : (Jvm.Cond.lays "java/lang/IllegalArgumentException" "java/lang/Throwable" "cause" "Ljava/lang/Throwable;") ∈ tbG := tbg 374 (by decide +kernel) (by decide +kernel)
theorem tw375 : (Jvm.Cond.lays "java/lang/IllegalArgumentException" "java/lang/Throwable" "stackTrace" "[Ljava/lang/StackTraceElement;") ∈ tbG := tbg 375 (by decide +kernel) (by decide +kernel)
theorem tw376 : (Jvm.Cond.lays "java/lang/IllegalArgumentException" "java/lang/Throwable" "suppressedExceptions" "Ljava/util/List;") ∈ tbG := tbg 376 (by decide +kernel) (by decide +kernel)
theorem tw377 : (Jvm.Cond.lays "java/lang/IllegalArgumentException" "java/lang/Throwable" "detailMessage" "Ljava/lang/String;") ∈ tbG := tbg 377 (by decide +kernel) (by decide +kernel)
theorem tw378 : (Jvm.Cond.lays "java/lang/IllegalArgumentException" "java/lang/Throwable" "backtrace" "Ljava/lang/Object;") ∈ tbG := tbg 378 (by decide +kernel) (by decide +kernel)
theorem tw380 : (Jvm.Cond.methodLink "PlanBranches" (116 : Nat) ({ cls := "java/lang/IllegalArgumentException", name := "<init>", desc := "(Ljava/lang/String;)V" } : Jvm.MethodName)) ∈ tbG := tbg 380 (by decide +kernel) (by decide +kernel)
theorem tw381 : (Jvm.Cond.instanceMethod ({ cls := "java/lang/IllegalArgumentException", name := "<init>", desc := "(Ljava/lang/String;)V" } : Jvm.MethodName)) ∈ tbG := tbg 381 (by decide +kernel) (by decide +kernel)
theorem tw382 : (Jvm.Cond.code ({ cls := "java/lang/IllegalArgumentException", name := "<init>", desc := "(Ljava/lang/String;)V" } : Jvm.MethodName) prog_12_method_2_code (2 : Nat) (Option.none : Option Jvm.ClassFile.FieldType)) ∈ tbG := tbg 382 (by decide +kernel) (by decide +kernel)
theorem tw383 : (Jvm.Cond.methodLink "java/lang/IllegalArgumentException" (7 : Nat) ({ cls := "java/lang/RuntimeException", name := "<init>", desc := "(Ljava/lang/String;)V" } : Jvm.MethodName)) ∈ tbG := tbg 383 (by decide +kernel) (by decide +kernel)
theorem tw384 : (Jvm.Cond.lays "java/lang/IllegalArgumentException" "java/lang/Throwable" "depth" "I") ∈ tbG := tbg 384 (by decide +kernel) (by decide +kernel)
theorem tw386 : (Jvm.Cond.methodLink "PlanBranches" (69 : Nat) ({ cls := "PlanBranches$Plan", name := "has", desc := "(I)Z" } : Jvm.MethodName)) ∈ tbG := tbg 386 (by decide +kernel) (by decide +kernel)
theorem tw387 : (Jvm.Cond.instanceMethod ({ cls := "PlanBranches$Plan", name := "has", desc := "(I)Z" } : Jvm.MethodName)) ∈ tbG := tbg 387 (by decide +kernel) (by decide +kernel)
theorem tw388 : (Jvm.Cond.selects "PlanBranches$Plan" ({ cls := "PlanBranches$Plan", name := "has", desc := "(I)Z" } : Jvm.MethodName) ({ cls := "PlanBranches$Plan", name := "has", desc := "(I)Z" } : Jvm.MethodName)) ∈ tbG := tbg 388 (by decide +kernel) (by decide +kernel)
theorem tw389 : (Jvm.Cond.code ({ cls := "PlanBranches$Plan", name := "has", desc := "(I)Z" } : Jvm.MethodName) prog_6_method_2_code (2 : Nat) (Option.some Jvm.ClassFile.FieldType.boolean)) ∈ tbG := tbg 389 (by decide +kernel) (by decide +kernel)
theorem tw390 : (Jvm.Cond.methodLink "PlanBranches" (83 : Nat) ({ cls := "PlanBranches$History", name := "keep", desc := "(LPlanBranches$Plan;I)V" } : Jvm.MethodName)) ∈ tbG := tbg 390 (by decide +kernel) (by decide +kernel)
theorem tw391 : (Jvm.Cond.instanceMethod ({ cls := "PlanBranches$History", name := "keep", desc := "(LPlanBranches$Plan;I)V" } : Jvm.MethodName)) ∈ tbG := tbg 391 (by decide +kernel) (by decide +kernel)
theorem tw392 : (Jvm.Cond.selects "PlanBranches$History" ({ cls := "PlanBranches$History", name := "keep", desc := "(LPlanBranches$Plan;I)V" } : Jvm.MethodName) ({ cls := "PlanBranches$History", name := "keep", desc := "(LPlanBranches$Plan;I)V" } : Jvm.MethodName)) ∈ tbG := tbg 392 (by decide +kernel) (by decide +kernel)
theorem tw393 : (Jvm.Cond.code ({ cls := "PlanBranches$History", name := "keep", desc := "(LPlanBranches$Plan;I)V" } : Jvm.MethodName) prog_4_method_2_code (3 : Nat) (Option.none : Option Jvm.ClassFile.FieldType)) ∈ tbG := tbg 393 (by decide +kernel) (by decide +kernel)
theorem tw394 : (Jvm.Cond.methodLink "PlanBranches" (89 : Nat) ({ cls := "PlanBranches$Plan", name := "put", desc := "(IIIII)V" } : Jvm.MethodName)) ∈ tbG := tbg 394 (by decide +kernel) (by decide +kernel)
theorem tw395 : (Jvm.Cond.instanceMethod ({ cls := "PlanBranches$Plan", name := "put", desc := "(IIIII)V" } : Jvm.MethodName)) ∈ tbG := tbg 395 (by decide +kernel) (by decide +kernel)
theorem tw396 : (Jvm.Cond.selects "PlanBranches$Plan" ({ cls := "PlanBranches$Plan", name := "put", desc := "(IIIII)V" } : Jvm.MethodName) ({ cls := "PlanBranches$Plan", name := "put", desc := "(IIIII)V" } : Jvm.MethodName)) ∈ tbG := tbg 396 (by decide +kernel) (by decide +kernel)
theorem tw397 : (Jvm.Cond.code ({ cls := "PlanBranches$Plan", name := "put", desc := "(IIIII)V" } : Jvm.MethodName) prog_6_method_3_code (6 : Nat) (Option.none : Option Jvm.ClassFile.FieldType)) ∈ tbG := tbg 397 (by decide +kernel) (by decide +kernel)
theorem tw398 : (Jvm.Cond.methodLink "PlanBranchesLaw" (126 : Nat) ({ cls := "PlanBranchesLaw", name := "removeTask", desc := "(LPlanBranches;II[J)I" } : Jvm.MethodName)) ∈ tbG := tbg 398 (by decide +kernel) (by decide +kernel)
theorem tw399 : (Jvm.Cond.static ({ cls := "PlanBranchesLaw", name := "removeTask", desc := "(LPlanBranches;II[J)I" } : Jvm.MethodName)) ∈ tbG := tbg 399 (by decide +kernel) (by decide +kernel)
theorem tw400 : (Jvm.Cond.codeWith ({ cls := "PlanBranchesLaw", name := "removeTask", desc := "(LPlanBranches;II[J)I" } : Jvm.MethodName) method_4_code (5 : Nat) (Option.some Jvm.ClassFile.FieldType.int) [((0 : Nat), (10 : Nat), (13 : Nat), (13 : Nat)), ((0 : Nat), (10 : Nat), (17 : Nat), (15 : Nat)), ((0 : Nat), (10 : Nat), (21 : Nat), (21 : Nat))]) ∈ tbG := tbg 400 (by decide +kernel) (by decide +kernel)
theorem tw401 : (Jvm.Cond.classLink "PlanBranchesLaw" (21 : Nat) "java/lang/IllegalStateException") ∈ tbG := tbg 401 (by decide +kernel) (by decide +kernel)
theorem tw402 : (Jvm.Cond.methodLink "PlanBranchesLaw" (17 : Nat) ({ cls := "PlanBranches", name := "removeTask", desc := "(II)I" } : Jvm.MethodName)) ∈ tbG := tbg 402 (by decide +kernel) (by decide +kernel)
theorem tw403 : (Jvm.Cond.instanceMethod ({ cls := "PlanBranches", name := "removeTask", desc := "(II)I" } : Jvm.MethodName)) ∈ tbG := tbg 403 (by decide +kernel) (by decide +kernel)
theorem tw404 : (Jvm.Cond.selects "PlanBranches" ({ cls := "PlanBranches", name := "removeTask", desc := "(II)I" } : Jvm.MethodName) ({ cls := "PlanBranches", name := "removeTask", desc := "(II)I" } : Jvm.MethodName)) ∈ tbG := tbg 404 (by decide +kernel) (by decide +kernel)
theorem tw405 : (Jvm.Cond.code ({ cls := "PlanBranches", name := "removeTask", desc := "(II)I" } : Jvm.MethodName) prog_1_method_3_code (5 : Nat) (Option.some Jvm.ClassFile.FieldType.int)) ∈ tbG := tbg 405 (by decide +kernel) (by decide +kernel)
theorem tw406 : (Jvm.Cond.classLink "PlanBranches" (93 : Nat) "java/lang/IllegalStateException") ∈ tbG := tbg 406 (by decide +kernel) (by decide +kernel)
theorem tw407 : (Jvm.Cond.instantiable "java/lang/IllegalStateException" (6 : Nat)) ∈ tbG := tbg 407 (by decide +kernel) (by decide +kernel)
theorem tw408 : (Jvm.Cond.castable "java/lang/IllegalStateException" "java/lang/IllegalStateException") ∈ tbX := tbx 408 (by decide +kernel) (by decide +kernel)
theorem tw409 : (Jvm.Cond.selects "java/lang/IllegalStateException" ({ cls := "java/lang/Throwable", name := "fillInStackTrace", desc := "(I)Ljava/lang/Throwable;" } : Jvm.MethodName) ({ cls := "java/lang/Throwable", name := "fillInStackTrace", desc := "(I)Ljava/lang/Throwable;" } : Jvm.MethodName)) ∈ tbG := tbg 409 (by decide +kernel) (by decide +kernel)
theorem tw410 : (Jvm.Cond.lays "java/lang/IllegalStateException" "java/lang/Throwable" "cause" "Ljava/lang/Throwable;") ∈ tbG := tbg 410 (by decide +kernel) (by decide +kernel)
theorem tw411 : (Jvm.Cond.lays "java/lang/IllegalStateException" "java/lang/Throwable" "stackTrace" "[Ljava/lang/StackTraceElement;") ∈ tbG := tbg 411 (by decide +kernel) (by decide +kernel)
theorem tw412 : (Jvm.Cond.lays "java/lang/IllegalStateException" "java/lang/Throwable" "suppressedExceptions" "Ljava/util/List;") ∈ tbG := tbg 412 (by decide +kernel) (by decide +kernel)
theorem tw413 : (Jvm.Cond.lays "java/lang/IllegalStateException" "java/lang/Throwable" "detailMessage" "Ljava/lang/String;") ∈ tbG := tbg 413 (by decide +kernel) (by decide +kernel)
theorem tw414 : (Jvm.Cond.lays "java/lang/IllegalStateException" "java/lang/Throwable" "backtrace" "Ljava/lang/Object;") ∈ tbG := tbg 414 (by decide +kernel) (by decide +kernel)
theorem tw416 : (Jvm.Cond.methodLink "PlanBranches" (97 : Nat) ({ cls := "java/lang/IllegalStateException", name := "<init>", desc := "(Ljava/lang/String;)V" } : Jvm.MethodName)) ∈ tbG := tbg 416 (by decide +kernel) (by decide +kernel)
theorem tw417 : (Jvm.Cond.instanceMethod ({ cls := "java/lang/IllegalStateException", name := "<init>", desc := "(Ljava/lang/String;)V" } : Jvm.MethodName)) ∈ tbG := tbg 417 (by decide +kernel) (by decide +kernel)
theorem tw418 : (Jvm.Cond.code ({ cls := "java/lang/IllegalStateException", name := "<init>", desc := "(Ljava/lang/String;)V" } : Jvm.MethodName) prog_13_method_2_code (2 : Nat) (Option.none : Option Jvm.ClassFile.FieldType)) ∈ tbG := tbg 418 (by decide +kernel) (by decide +kernel)
theorem tw419 : (Jvm.Cond.methodLink "java/lang/IllegalStateException" (7 : Nat) ({ cls := "java/lang/RuntimeException", name := "<init>", desc := "(Ljava/lang/String;)V" } : Jvm.MethodName)) ∈ tbG := tbg 419 (by decide +kernel) (by decide +kernel)
theorem tw420 : (Jvm.Cond.lays "java/lang/IllegalStateException" "java/lang/Throwable" "depth" "I") ∈ tbG := tbg 420 (by decide +kernel) (by decide +kernel)
theorem tw422 : (Jvm.Cond.methodLink "PlanBranches" (100 : Nat) ({ cls := "PlanBranches$Plan", name := "needers", desc := "(I)I" } : Jvm.MethodName)) ∈ tbG := tbg 422 (by decide +kernel) (by decide +kernel)
theorem tw423 : (Jvm.Cond.instanceMethod ({ cls := "PlanBranches$Plan", name := "needers", desc := "(I)I" } : Jvm.MethodName)) ∈ tbG := tbg 423 (by decide +kernel) (by decide +kernel)
theorem tw424 : (Jvm.Cond.selects "PlanBranches$Plan" ({ cls := "PlanBranches$Plan", name := "needers", desc := "(I)I" } : Jvm.MethodName) ({ cls := "PlanBranches$Plan", name := "needers", desc := "(I)I" } : Jvm.MethodName)) ∈ tbG := tbg 424 (by decide +kernel) (by decide +kernel)
theorem tw425 : (Jvm.Cond.code ({ cls := "PlanBranches$Plan", name := "needers", desc := "(I)I" } : Jvm.MethodName) prog_6_method_11_code (4 : Nat) (Option.some Jvm.ClassFile.FieldType.int)) ∈ tbG := tbg 425 (by decide +kernel) (by decide +kernel)
theorem tw426 : (Jvm.Cond.methodLinkNest "PlanBranches$Plan" (40 : Nat) ({ cls := "PlanBranches", name := "contains", desc := "(II)Z" } : Jvm.MethodName) "PlanBranches") ∈ tbX := tbx 426 (by decide +kernel) (by decide +kernel)
theorem tw427 : (Jvm.Cond.static ({ cls := "PlanBranches", name := "contains", desc := "(II)Z" } : Jvm.MethodName)) ∈ tbG := tbg 427 (by decide +kernel) (by decide +kernel)
theorem tw428 : (Jvm.Cond.code ({ cls := "PlanBranches", name := "contains", desc := "(II)Z" } : Jvm.MethodName) prog_1_method_37_code (2 : Nat) (Option.some Jvm.ClassFile.FieldType.boolean)) ∈ tbG := tbg 428 (by decide +kernel) (by decide +kernel)
theorem tw430 : (Jvm.Cond.methodLink "PlanBranches" (109 : Nat) ({ cls := "PlanBranches$Plan", name := "clear", desc := "(I)V" } : Jvm.MethodName)) ∈ tbG := tbg 430 (by decide +kernel) (by decide +kernel)
theorem tw431 : (Jvm.Cond.instanceMethod ({ cls := "PlanBranches$Plan", name := "clear", desc := "(I)V" } : Jvm.MethodName)) ∈ tbG := tbg 431 (by decide +kernel) (by decide +kernel)
theorem tw432 : (Jvm.Cond.selects "PlanBranches$Plan" ({ cls := "PlanBranches$Plan", name := "clear", desc := "(I)V" } : Jvm.MethodName) ({ cls := "PlanBranches$Plan", name := "clear", desc := "(I)V" } : Jvm.MethodName)) ∈ tbG := tbg 432 (by decide +kernel) (by decide +kernel)
theorem tw433 : (Jvm.Cond.code ({ cls := "PlanBranches$Plan", name := "clear", desc := "(I)V" } : Jvm.MethodName) prog_6_method_4_code (2 : Nat) (Option.none : Option Jvm.ClassFile.FieldType)) ∈ tbG := tbg 433 (by decide +kernel) (by decide +kernel)
theorem tw434 : (Jvm.Cond.methodLink "PlanBranches$Plan" (24 : Nat) ({ cls := "PlanBranches$Plan", name := "put", desc := "(IIIII)V" } : Jvm.MethodName)) ∈ tbG := tbg 434 (by decide +kernel) (by decide +kernel)
theorem tw435 : (Jvm.Cond.methodLink "PlanBranchesLaw" (130 : Nat) ({ cls := "PlanBranchesLaw", name := "setNeed", desc := "(LPlanBranches;IIIZ[J)I" } : Jvm.MethodName)) ∈ tbG := tbg 435 (by decide +kernel) (by decide +kernel)
theorem tw436 : (Jvm.Cond.static ({ cls := "PlanBranchesLaw", name := "setNeed", desc := "(LPlanBranches;IIIZ[J)I" } : Jvm.MethodName)) ∈ tbG := tbg 436 (by decide +kernel) (by decide +kernel)
theorem tw437 : (Jvm.Cond.codeWith ({ cls := "PlanBranchesLaw", name := "setNeed", desc := "(LPlanBranches;IIIZ[J)I" } : Jvm.MethodName) method_5_code (7 : Nat) (Option.some Jvm.ClassFile.FieldType.int) [((0 : Nat), (21 : Nat), (24 : Nat), (13 : Nat)), ((0 : Nat), (21 : Nat), (28 : Nat), (15 : Nat)), ((0 : Nat), (21 : Nat), (32 : Nat), (21 : Nat))]) ∈ tbG := tbg 437 (by decide +kernel) (by decide +kernel)
theorem tw438 : (Jvm.Cond.methodLink "PlanBranchesLaw" (23 : Nat) ({ cls := "PlanBranches", name := "setNeed", desc := "(IIIZ)Z" } : Jvm.MethodName)) ∈ tbG := tbg 438 (by decide +kernel) (by decide +kernel)
theorem tw439 : (Jvm.Cond.instanceMethod ({ cls := "PlanBranches", name := "setNeed", desc := "(IIIZ)Z" } : Jvm.MethodName)) ∈ tbG := tbg 439 (by decide +kernel) (by decide +kernel)
theorem tw440 : (Jvm.Cond.selects "PlanBranches" ({ cls := "PlanBranches", name := "setNeed", desc := "(IIIZ)Z" } : Jvm.MethodName) ({ cls := "PlanBranches", name := "setNeed", desc := "(IIIZ)Z" } : Jvm.MethodName)) ∈ tbG := tbg 440 (by decide +kernel) (by decide +kernel)
theorem tw441 : (Jvm.Cond.code ({ cls := "PlanBranches", name := "setNeed", desc := "(IIIZ)Z" } : Jvm.MethodName) prog_1_method_4_code (7 : Nat) (Option.some Jvm.ClassFile.FieldType.boolean)) ∈ tbG := tbg 441 (by decide +kernel) (by decide +kernel)
theorem tw444 : (Jvm.Cond.methodLink "PlanBranches" (119 : Nat) ({ cls := "PlanBranches$Plan", name := "allNeeds", desc := "(I)I" } : Jvm.MethodName)) ∈ tbG := tbg 444 (by decide +kernel) (by decide +kernel)
theorem tw445 : (Jvm.Cond.instanceMethod ({ cls := "PlanBranches$Plan", name := "allNeeds", desc := "(I)I" } : Jvm.MethodName)) ∈ tbG := tbg 445 (by decide +kernel) (by decide +kernel)
theorem tw446 : (Jvm.Cond.selects "PlanBranches$Plan" ({ cls := "PlanBranches$Plan", name := "allNeeds", desc := "(I)I" } : Jvm.MethodName) ({ cls := "PlanBranches$Plan", name := "allNeeds", desc := "(I)I" } : Jvm.MethodName)) ∈ tbG := tbg 446 (by decide +kernel) (by decide +kernel)
theorem tw447 : (Jvm.Cond.code ({ cls := "PlanBranches$Plan", name := "allNeeds", desc := "(I)I" } : Jvm.MethodName) prog_6_method_12_code (6 : Nat) (Option.some Jvm.ClassFile.FieldType.int)) ∈ tbG := tbg 447 (by decide +kernel) (by decide +kernel)
theorem tw448 : (Jvm.Cond.methodLink "PlanBranches" (122 : Nat) ({ cls := "PlanBranches", name := "contains", desc := "(II)Z" } : Jvm.MethodName)) ∈ tbG := tbg 448 (by decide +kernel) (by decide +kernel)
theorem tw450 : (Jvm.Cond.methodLink "PlanBranchesLaw" (134 : Nat) ({ cls := "PlanBranchesLaw", name := "undo", desc := "(LPlanBranches;I[J)I" } : Jvm.MethodName)) ∈ tbG := tbg 450 (by decide +kernel) (by decide +kernel)
theorem tw451 : (Jvm.Cond.static ({ cls := "PlanBranchesLaw", name := "undo", desc := "(LPlanBranches;I[J)I" } : Jvm.MethodName)) ∈ tbG := tbg 451 (by decide +kernel) (by decide +kernel)
theorem tw452 : (Jvm.Cond.codeWith ({ cls := "PlanBranchesLaw", name := "undo", desc := "(LPlanBranches;I[J)I" } : Jvm.MethodName) method_6_code (4 : Nat) (Option.some Jvm.ClassFile.FieldType.int) [((0 : Nat), (9 : Nat), (12 : Nat), (13 : Nat)), ((0 : Nat), (9 : Nat), (15 : Nat), (21 : Nat))]) ∈ tbG := tbg 452 (by decide +kernel) (by decide +kernel)
theorem tw453 : (Jvm.Cond.methodLink "PlanBranchesLaw" (27 : Nat) ({ cls := "PlanBranches", name := "undo", desc := "(I)I" } : Jvm.MethodName)) ∈ tbG := tbg 453 (by decide +kernel) (by decide +kernel)
theorem tw454 : (Jvm.Cond.instanceMethod ({ cls := "PlanBranches", name := "undo", desc := "(I)I" } : Jvm.MethodName)) ∈ tbG := tbg 454 (by decide +kernel) (by decide +kernel)
theorem tw455 : (Jvm.Cond.selects "PlanBranches" ({ cls := "PlanBranches", name := "undo", desc := "(I)I" } : Jvm.MethodName) ({ cls := "PlanBranches", name := "undo", desc := "(I)I" } : Jvm.MethodName)) ∈ tbG := tbg 455 (by decide +kernel) (by decide +kernel)
theorem tw456 : (Jvm.Cond.code ({ cls := "PlanBranches", name := "undo", desc := "(I)I" } : Jvm.MethodName) prog_1_method_5_code (3 : Nat) (Option.some Jvm.ClassFile.FieldType.int)) ∈ tbG := tbg 456 (by decide +kernel) (by decide +kernel)
theorem tw458 : (Jvm.Cond.methodLink "PlanBranches" (133 : Nat) ({ cls := "PlanBranches$History", name := "restore", desc := "(LPlanBranches$Plan;)V" } : Jvm.MethodName)) ∈ tbG := tbg 458 (by decide +kernel) (by decide +kernel)
theorem tw459 : (Jvm.Cond.instanceMethod ({ cls := "PlanBranches$History", name := "restore", desc := "(LPlanBranches$Plan;)V" } : Jvm.MethodName)) ∈ tbG := tbg 459 (by decide +kernel) (by decide +kernel)
theorem tw460 : (Jvm.Cond.selects "PlanBranches$History" ({ cls := "PlanBranches$History", name := "restore", desc := "(LPlanBranches$Plan;)V" } : Jvm.MethodName) ({ cls := "PlanBranches$History", name := "restore", desc := "(LPlanBranches$Plan;)V" } : Jvm.MethodName)) ∈ tbG := tbg 460 (by decide +kernel) (by decide +kernel)
theorem tw461 : (Jvm.Cond.code ({ cls := "PlanBranches$History", name := "restore", desc := "(LPlanBranches$Plan;)V" } : Jvm.MethodName) prog_4_method_3_code (2 : Nat) (Option.none : Option Jvm.ClassFile.FieldType)) ∈ tbG := tbg 461 (by decide +kernel) (by decide +kernel)
theorem tw462 : (Jvm.Cond.methodLink "PlanBranches$History" (40 : Nat) ({ cls := "PlanBranches$Plan", name := "put", desc := "(IIIII)V" } : Jvm.MethodName)) ∈ tbG := tbg 462 (by decide +kernel) (by decide +kernel)
theorem tw463 : (Jvm.Cond.methodLink "PlanBranchesLaw" (138 : Nat) ({ cls := "PlanBranchesLaw", name := "tasks", desc := "(LPlanBranches;I[J)I" } : Jvm.MethodName)) ∈ tbG := tbg 463 (by decide +kernel) (by decide +kernel)
theorem tw464 : (Jvm.Cond.static ({ cls := "PlanBranchesLaw", name := "tasks", desc := "(LPlanBranches;I[J)I" } : Jvm.MethodName)) ∈ tbG := tbg 464 (by decide +kernel) (by decide +kernel)
theorem tw465 : (Jvm.Cond.codeWith ({ cls := "PlanBranchesLaw", name := "tasks", desc := "(LPlanBranches;I[J)I" } : Jvm.MethodName) method_7_code (4 : Nat) (Option.some Jvm.ClassFile.FieldType.int) [((0 : Nat), (9 : Nat), (12 : Nat), (13 : Nat))]) ∈ tbG := tbg 465 (by decide +kernel) (by decide +kernel)
theorem tw466 : (Jvm.Cond.methodLink "PlanBranchesLaw" (31 : Nat) ({ cls := "PlanBranches", name := "tasks", desc := "(I)I" } : Jvm.MethodName)) ∈ tbG := tbg 466 (by decide +kernel) (by decide +kernel)
theorem tw467 : (Jvm.Cond.instanceMethod ({ cls := "PlanBranches", name := "tasks", desc := "(I)I" } : Jvm.MethodName)) ∈ tbG := tbg 467 (by decide +kernel) (by decide +kernel)
theorem tw468 : (Jvm.Cond.selects "PlanBranches" ({ cls := "PlanBranches", name := "tasks", desc := "(I)I" } : Jvm.MethodName) ({ cls := "PlanBranches", name := "tasks", desc := "(I)I" } : Jvm.MethodName)) ∈ tbG := tbg 468 (by decide +kernel) (by decide +kernel)
theorem tw469 : (Jvm.Cond.code ({ cls := "PlanBranches", name := "tasks", desc := "(I)I" } : Jvm.MethodName) prog_1_method_6_code (2 : Nat) (Option.some Jvm.ClassFile.FieldType.int)) ∈ tbG := tbg 469 (by decide +kernel) (by decide +kernel)
theorem tw470 : (Jvm.Cond.methodLink "PlanBranches" (137 : Nat) ({ cls := "PlanBranches$Plan", name := "present", desc := "()I" } : Jvm.MethodName)) ∈ tbG := tbg 470 (by decide +kernel) (by decide +kernel)
theorem tw471 : (Jvm.Cond.instanceMethod ({ cls := "PlanBranches$Plan", name := "present", desc := "()I" } : Jvm.MethodName)) ∈ tbG := tbg 471 (by decide +kernel) (by decide +kernel)
theorem tw472 : (Jvm.Cond.selects "PlanBranches$Plan" ({ cls := "PlanBranches$Plan", name := "present", desc := "()I" } : Jvm.MethodName) ({ cls := "PlanBranches$Plan", name := "present", desc := "()I" } : Jvm.MethodName)) ∈ tbG := tbg 472 (by decide +kernel) (by decide +kernel)
theorem tw473 : (Jvm.Cond.code ({ cls := "PlanBranches$Plan", name := "present", desc := "()I" } : Jvm.MethodName) prog_6_method_9_code (3 : Nat) (Option.some Jvm.ClassFile.FieldType.int)) ∈ tbG := tbg 473 (by decide +kernel) (by decide +kernel)
theorem tw474 : (Jvm.Cond.methodLink "PlanBranches$Plan" (36 : Nat) ({ cls := "PlanBranches$Plan", name := "has", desc := "(I)Z" } : Jvm.MethodName)) ∈ tbG := tbg 474 (by decide +kernel) (by decide +kernel)
theorem tw475 : (Jvm.Cond.methodLink "PlanBranchesLaw" (141 : Nat) ({ cls := "PlanBranchesLaw", name := "length", desc := "(LPlanBranches;II[J)I" } : Jvm.MethodName)) ∈ tbG := tbg 475 (by decide +kernel) (by decide +kernel)
theorem tw476 : (Jvm.Cond.static ({ cls := "PlanBranchesLaw", name := "length", desc := "(LPlanBranches;II[J)I" } : Jvm.MethodName)) ∈ tbG := tbg 476 (by decide +kernel) (by decide +kernel)
theorem tw477 : (Jvm.Cond.codeWith ({ cls := "PlanBranchesLaw", name := "length", desc := "(LPlanBranches;II[J)I" } : Jvm.MethodName) method_8_code (5 : Nat) (Option.some Jvm.ClassFile.FieldType.int) [((0 : Nat), (10 : Nat), (13 : Nat), (13 : Nat)), ((0 : Nat), (10 : Nat), (17 : Nat), (15 : Nat))]) ∈ tbG := tbg 477 (by decide +kernel) (by decide +kernel)
theorem tw478 : (Jvm.Cond.methodLink "PlanBranchesLaw" (34 : Nat) ({ cls := "PlanBranches", name := "length", desc := "(II)I" } : Jvm.MethodName)) ∈ tbG := tbg 478 (by decide +kernel) (by decide +kernel)
theorem tw479 : (Jvm.Cond.instanceMethod ({ cls := "PlanBranches", name := "length", desc := "(II)I" } : Jvm.MethodName)) ∈ tbG := tbg 479 (by decide +kernel) (by decide +kernel)
theorem tw480 : (Jvm.Cond.selects "PlanBranches" ({ cls := "PlanBranches", name := "length", desc := "(II)I" } : Jvm.MethodName) ({ cls := "PlanBranches", name := "length", desc := "(II)I" } : Jvm.MethodName)) ∈ tbG := tbg 480 (by decide +kernel) (by decide +kernel)
theorem tw481 : (Jvm.Cond.code ({ cls := "PlanBranches", name := "length", desc := "(II)I" } : Jvm.MethodName) prog_1_method_7_code (4 : Nat) (Option.some Jvm.ClassFile.FieldType.int)) ∈ tbG := tbg 481 (by decide +kernel) (by decide +kernel)
theorem tw482 : (Jvm.Cond.methodLink "PlanBranchesLaw" (144 : Nat) ({ cls := "PlanBranchesLaw", name := "crew", desc := "(LPlanBranches;II[J)I" } : Jvm.MethodName)) ∈ tbG := tbg 482 (by decide +kernel) (by decide +kernel)
theorem tw483 : (Jvm.Cond.static ({ cls := "PlanBranchesLaw", name := "crew", desc := "(LPlanBranches;II[J)I" } : Jvm.MethodName)) ∈ tbG := tbg 483 (by decide +kernel) (by decide +kernel)
theorem tw484 : (Jvm.Cond.codeWith ({ cls := "PlanBranchesLaw", name := "crew", desc := "(LPlanBranches;II[J)I" } : Jvm.MethodName) method_9_code (5 : Nat) (Option.some Jvm.ClassFile.FieldType.int) [((0 : Nat), (10 : Nat), (13 : Nat), (13 : Nat)), ((0 : Nat), (10 : Nat), (17 : Nat), (15 : Nat))]) ∈ tbG := tbg 484 (by decide +kernel) (by decide +kernel)
theorem tw485 : (Jvm.Cond.methodLink "PlanBranchesLaw" (37 : Nat) ({ cls := "PlanBranches", name := "crew", desc := "(II)I" } : Jvm.MethodName)) ∈ tbG := tbg 485 (by decide +kernel) (by decide +kernel)
theorem tw486 : (Jvm.Cond.instanceMethod ({ cls := "PlanBranches", name := "crew", desc := "(II)I" } : Jvm.MethodName)) ∈ tbG := tbg 486 (by decide +kernel) (by decide +kernel)
theorem tw487 : (Jvm.Cond.selects "PlanBranches" ({ cls := "PlanBranches", name := "crew", desc := "(II)I" } : Jvm.MethodName) ({ cls := "PlanBranches", name := "crew", desc := "(II)I" } : Jvm.MethodName)) ∈ tbG := tbg 487 (by decide +kernel) (by decide +kernel)
theorem tw488 : (Jvm.Cond.code ({ cls := "PlanBranches", name := "crew", desc := "(II)I" } : Jvm.MethodName) prog_1_method_8_code (4 : Nat) (Option.some Jvm.ClassFile.FieldType.int)) ∈ tbG := tbg 488 (by decide +kernel) (by decide +kernel)
theorem tw489 : (Jvm.Cond.methodLink "PlanBranchesLaw" (147 : Nat) ({ cls := "PlanBranchesLaw", name := "needs", desc := "(LPlanBranches;II[J)I" } : Jvm.MethodName)) ∈ tbG := tbg 489 (by decide +kernel) (by decide +kernel)
theorem tw490 : (Jvm.Cond.static ({ cls := "PlanBranchesLaw", name := "needs", desc := "(LPlanBranches;II[J)I" } : Jvm.MethodName)) ∈ tbG := tbg 490 (by decide +kernel) (by decide +kernel)
theorem tw491 : (Jvm.Cond.codeWith ({ cls := "PlanBranchesLaw", name := "needs", desc := "(LPlanBranches;II[J)I" } : Jvm.MethodName) method_10_code (5 : Nat) (Option.some Jvm.ClassFile.FieldType.int) [((0 : Nat), (10 : Nat), (13 : Nat), (13 : Nat)), ((0 : Nat), (10 : Nat), (17 : Nat), (15 : Nat))]) ∈ tbG := tbg 491 (by decide +kernel) (by decide +kernel)
theorem tw492 : (Jvm.Cond.methodLink "PlanBranchesLaw" (40 : Nat) ({ cls := "PlanBranches", name := "needs", desc := "(II)I" } : Jvm.MethodName)) ∈ tbG := tbg 492 (by decide +kernel) (by decide +kernel)
theorem tw493 : (Jvm.Cond.instanceMethod ({ cls := "PlanBranches", name := "needs", desc := "(II)I" } : Jvm.MethodName)) ∈ tbG := tbg 493 (by decide +kernel) (by decide +kernel)
theorem tw494 : (Jvm.Cond.selects "PlanBranches" ({ cls := "PlanBranches", name := "needs", desc := "(II)I" } : Jvm.MethodName) ({ cls := "PlanBranches", name := "needs", desc := "(II)I" } : Jvm.MethodName)) ∈ tbG := tbg 494 (by decide +kernel) (by decide +kernel)
theorem tw495 : (Jvm.Cond.code ({ cls := "PlanBranches", name := "needs", desc := "(II)I" } : Jvm.MethodName) prog_1_method_9_code (4 : Nat) (Option.some Jvm.ClassFile.FieldType.int)) ∈ tbG := tbg 495 (by decide +kernel) (by decide +kernel)
theorem tw496 : (Jvm.Cond.methodLink "PlanBranchesLaw" (150 : Nat) ({ cls := "PlanBranchesLaw", name := "cost", desc := "(LPlanBranches;I[J)I" } : Jvm.MethodName)) ∈ tbG := tbg 496 (by decide +kernel) (by decide +kernel)
theorem tw497 : (Jvm.Cond.static ({ cls := "PlanBranchesLaw", name := "cost", desc := "(LPlanBranches;I[J)I" } : Jvm.MethodName)) ∈ tbG := tbg 497 (by decide +kernel) (by decide +kernel)
theorem tw498 : (Jvm.Cond.codeWith ({ cls := "PlanBranchesLaw", name := "cost", desc := "(LPlanBranches;I[J)I" } : Jvm.MethodName) method_11_code (4 : Nat) (Option.some Jvm.ClassFile.FieldType.int) [((0 : Nat), (9 : Nat), (12 : Nat), (13 : Nat))]) ∈ tbG := tbg 498 (by decide +kernel) (by decide +kernel)
theorem tw499 : (Jvm.Cond.methodLink "PlanBranchesLaw" (43 : Nat) ({ cls := "PlanBranches", name := "cost", desc := "(I)I" } : Jvm.MethodName)) ∈ tbG := tbg 499 (by decide +kernel) (by decide +kernel)
theorem tw500 : (Jvm.Cond.instanceMethod ({ cls := "PlanBranches", name := "cost", desc := "(I)I" } : Jvm.MethodName)) ∈ tbG := tbg 500 (by decide +kernel) (by decide +kernel)
theorem tw501 : (Jvm.Cond.selects "PlanBranches" ({ cls := "PlanBranches", name := "cost", desc := "(I)I" } : Jvm.MethodName) ({ cls := "PlanBranches", name := "cost", desc := "(I)I" } : Jvm.MethodName)) ∈ tbG := tbg 501 (by decide +kernel) (by decide +kernel)
theorem tw502 : (Jvm.Cond.code ({ cls := "PlanBranches", name := "cost", desc := "(I)I" } : Jvm.MethodName) prog_1_method_10_code (2 : Nat) (Option.some Jvm.ClassFile.FieldType.int)) ∈ tbG := tbg 502 (by decide +kernel) (by decide +kernel)
theorem tw503 : (Jvm.Cond.methodLink "PlanBranches" (143 : Nat) ({ cls := "PlanBranches$Plan", name := "totalCost", desc := "()I" } : Jvm.MethodName)) ∈ tbG := tbg 503 (by decide +kernel) (by decide +kernel)
theorem tw504 : (Jvm.Cond.instanceMethod ({ cls := "PlanBranches$Plan", name := "totalCost", desc := "()I" } : Jvm.MethodName)) ∈ tbG := tbg 504 (by decide +kernel) (by decide +kernel)
theorem tw505 : (Jvm.Cond.selects "PlanBranches$Plan" ({ cls := "PlanBranches$Plan", name := "totalCost", desc := "()I" } : Jvm.MethodName) ({ cls := "PlanBranches$Plan", name := "totalCost", desc := "()I" } : Jvm.MethodName)) ∈ tbG := tbg 505 (by decide +kernel) (by decide +kernel)
theorem tw506 : (Jvm.Cond.code ({ cls := "PlanBranches$Plan", name := "totalCost", desc := "()I" } : Jvm.MethodName) prog_6_method_10_code (3 : Nat) (Option.some Jvm.ClassFile.FieldType.int)) ∈ tbG := tbg 506 (by decide +kernel) (by decide +kernel)
theorem tw507 : (Jvm.Cond.methodLink "PlanBranchesLaw" (153 : Nat) ({ cls := "PlanBranchesLaw", name := "begin", desc := "(LPlanBranches;I[J)I" } : Jvm.MethodName)) ∈ tbG := tbg 507 (by decide +kernel) (by decide +kernel)
theorem tw508 : (Jvm.Cond.static ({ cls := "PlanBranchesLaw", name := "begin", desc := "(LPlanBranches;I[J)I" } : Jvm.MethodName)) ∈ tbG := tbg 508 (by decide +kernel) (by decide +kernel)
theorem tw509 : (Jvm.Cond.codeWith ({ cls := "PlanBranchesLaw", name := "begin", desc := "(LPlanBranches;I[J)I" } : Jvm.MethodName) method_12_code (4 : Nat) (Option.some Jvm.ClassFile.FieldType.int) [((0 : Nat), (9 : Nat), (12 : Nat), (13 : Nat)), ((0 : Nat), (9 : Nat), (15 : Nat), (21 : Nat))]) ∈ tbG := tbg 509 (by decide +kernel) (by decide +kernel)
theorem tw510 : (Jvm.Cond.methodLink "PlanBranchesLaw" (46 : Nat) ({ cls := "PlanBranches", name := "begin", desc := "(I)I" } : Jvm.MethodName)) ∈ tbG := tbg 510 (by decide +kernel) (by decide +kernel)
theorem tw511 : (Jvm.Cond.instanceMethod ({ cls := "PlanBranches", name := "begin", desc := "(I)I" } : Jvm.MethodName)) ∈ tbG := tbg 511 (by decide +kernel) (by decide +kernel)
theorem tw512 : (Jvm.Cond.selects "PlanBranches" ({ cls := "PlanBranches", name := "begin", desc := "(I)I" } : Jvm.MethodName) ({ cls := "PlanBranches", name := "begin", desc := "(I)I" } : Jvm.MethodName)) ∈ tbG := tbg 512 (by decide +kernel) (by decide +kernel)
theorem tw513 : (Jvm.Cond.code ({ cls := "PlanBranches", name := "begin", desc := "(I)I" } : Jvm.MethodName) prog_1_method_11_code (5 : Nat) (Option.some Jvm.ClassFile.FieldType.int)) ∈ tbG := tbg 513 (by decide +kernel) (by decide +kernel)
theorem tw515 : (Jvm.Cond.methodLink "PlanBranches" (148 : Nat) ({ cls := "PlanBranches$Plan", name := "copyFrom", desc := "(LPlanBranches$Plan;)V" } : Jvm.MethodName)) ∈ tbG := tbg 515 (by decide +kernel) (by decide +kernel)
theorem tw516 : (Jvm.Cond.instanceMethod ({ cls := "PlanBranches$Plan", name := "copyFrom", desc := "(LPlanBranches$Plan;)V" } : Jvm.MethodName)) ∈ tbG := tbg 516 (by decide +kernel) (by decide +kernel)
theorem tw517 : (Jvm.Cond.selects "PlanBranches$Plan" ({ cls := "PlanBranches$Plan", name := "copyFrom", desc := "(LPlanBranches$Plan;)V" } : Jvm.MethodName) ({ cls := "PlanBranches$Plan", name := "copyFrom", desc := "(LPlanBranches$Plan;)V" } : Jvm.MethodName)) ∈ tbG := tbg 517 (by decide +kernel) (by decide +kernel)
theorem tw518 : (Jvm.Cond.code ({ cls := "PlanBranches$Plan", name := "copyFrom", desc := "(LPlanBranches$Plan;)V" } : Jvm.MethodName) prog_6_method_6_code (3 : Nat) (Option.none : Option Jvm.ClassFile.FieldType)) ∈ tbG := tbg 518 (by decide +kernel) (by decide +kernel)
theorem tw519 : (Jvm.Cond.methodLink "PlanBranches$Plan" (28 : Nat) ({ cls := "PlanBranches$Plan", name := "take", desc := "(LPlanBranches$Plan;I)V" } : Jvm.MethodName)) ∈ tbG := tbg 519 (by decide +kernel) (by decide +kernel)
theorem tw520 : (Jvm.Cond.instanceMethod ({ cls := "PlanBranches$Plan", name := "take", desc := "(LPlanBranches$Plan;I)V" } : Jvm.MethodName)) ∈ tbG := tbg 520 (by decide +kernel) (by decide +kernel)
theorem tw521 : (Jvm.Cond.selects "PlanBranches$Plan" ({ cls := "PlanBranches$Plan", name := "take", desc := "(LPlanBranches$Plan;I)V" } : Jvm.MethodName) ({ cls := "PlanBranches$Plan", name := "take", desc := "(LPlanBranches$Plan;I)V" } : Jvm.MethodName)) ∈ tbG := tbg 521 (by decide +kernel) (by decide +kernel)
theorem tw522 : (Jvm.Cond.code ({ cls := "PlanBranches$Plan", name := "take", desc := "(LPlanBranches$Plan;I)V" } : Jvm.MethodName) prog_6_method_5_code (3 : Nat) (Option.none : Option Jvm.ClassFile.FieldType)) ∈ tbG := tbg 522 (by decide +kernel) (by decide +kernel)
theorem tw523 : (Jvm.Cond.methodLink "PlanBranches" (154 : Nat) ({ cls := "PlanBranches$History", name := "forget", desc := "()V" } : Jvm.MethodName)) ∈ tbG := tbg 523 (by decide +kernel) (by decide +kernel)
theorem tw524 : (Jvm.Cond.instanceMethod ({ cls := "PlanBranches$History", name := "forget", desc := "()V" } : Jvm.MethodName)) ∈ tbG := tbg 524 (by decide +kernel) (by decide +kernel)
theorem tw525 : (Jvm.Cond.selects "PlanBranches$History" ({ cls := "PlanBranches$History", name := "forget", desc := "()V" } : Jvm.MethodName) ({ cls := "PlanBranches$History", name := "forget", desc := "()V" } : Jvm.MethodName)) ∈ tbG := tbg 525 (by decide +kernel) (by decide +kernel)
theorem tw526 : (Jvm.Cond.code ({ cls := "PlanBranches$History", name := "forget", desc := "()V" } : Jvm.MethodName) prog_4_method_4_code (1 : Nat) (Option.none : Option Jvm.ClassFile.FieldType)) ∈ tbG := tbg 526 (by decide +kernel) (by decide +kernel)
theorem tw527 : (Jvm.Cond.methodLink "PlanBranchesLaw" (160 : Nat) ({ cls := "PlanBranchesLaw", name := "parent", desc := "(LPlanBranches;I[J)I" } : Jvm.MethodName)) ∈ tbG := tbg 527 (by decide +kernel) (by decide +kernel)
theorem tw528 : (Jvm.Cond.static ({ cls := "PlanBranchesLaw", name := "parent", desc := "(LPlanBranches;I[J)I" } : Jvm.MethodName)) ∈ tbG := tbg 528 (by decide +kernel) (by decide +kernel)
theorem tw529 : (Jvm.Cond.codeWith ({ cls := "PlanBranchesLaw", name := "parent", desc := "(LPlanBranches;I[J)I" } : Jvm.MethodName) method_13_code (4 : Nat) (Option.some Jvm.ClassFile.FieldType.int) [((0 : Nat), (9 : Nat), (12 : Nat), (13 : Nat))]) ∈ tbG := tbg 529 (by decide +kernel) (by decide +kernel)
theorem tw530 : (Jvm.Cond.methodLink "PlanBranchesLaw" (49 : Nat) ({ cls := "PlanBranches", name := "parent", desc := "(I)I" } : Jvm.MethodName)) ∈ tbG := tbg 530 (by decide +kernel) (by decide +kernel)
theorem tw531 : (Jvm.Cond.instanceMethod ({ cls := "PlanBranches", name := "parent", desc := "(I)I" } : Jvm.MethodName)) ∈ tbG := tbg 531 (by decide +kernel) (by decide +kernel)
theorem tw532 : (Jvm.Cond.selects "PlanBranches" ({ cls := "PlanBranches", name := "parent", desc := "(I)I" } : Jvm.MethodName) ({ cls := "PlanBranches", name := "parent", desc := "(I)I" } : Jvm.MethodName)) ∈ tbG := tbg 532 (by decide +kernel) (by decide +kernel)
theorem tw533 : (Jvm.Cond.code ({ cls := "PlanBranches", name := "parent", desc := "(I)I" } : Jvm.MethodName) prog_1_method_13_code (3 : Nat) (Option.some Jvm.ClassFile.FieldType.int)) ∈ tbG := tbg 533 (by decide +kernel) (by decide +kernel)
theorem tw534 : (Jvm.Cond.methodLink "PlanBranchesLaw" (163 : Nat) ({ cls := "PlanBranchesLaw", name := "setBudget", desc := "(LPlanBranches;II[J)I" } : Jvm.MethodName)) ∈ tbG := tbg 534 (by decide +kernel) (by decide +kernel)
theorem tw535 : (Jvm.Cond.static ({ cls := "PlanBranchesLaw", name := "setBudget", desc := "(LPlanBranches;II[J)I" } : Jvm.MethodName)) ∈ tbG := tbg 535 (by decide +kernel) (by decide +kernel)
theorem tw536 : (Jvm.Cond.codeWith ({ cls := "PlanBranchesLaw", name := "setBudget", desc := "(LPlanBranches;II[J)I" } : Jvm.MethodName) method_14_code (5 : Nat) (Option.some Jvm.ClassFile.FieldType.int) [((0 : Nat), (10 : Nat), (13 : Nat), (13 : Nat)), ((0 : Nat), (10 : Nat), (17 : Nat), (15 : Nat))]) ∈ tbG := tbg 536 (by decide +kernel) (by decide +kernel)
theorem tw537 : (Jvm.Cond.methodLink "PlanBranchesLaw" (52 : Nat) ({ cls := "PlanBranches", name := "setBudget", desc := "(II)I" } : Jvm.MethodName)) ∈ tbG := tbg 537 (by decide +kernel) (by decide +kernel)
theorem tw538 : (Jvm.Cond.instanceMethod ({ cls := "PlanBranches", name := "setBudget", desc := "(II)I" } : Jvm.MethodName)) ∈ tbG := tbg 538 (by decide +kernel) (by decide +kernel)
theorem tw539 : (Jvm.Cond.selects "PlanBranches" ({ cls := "PlanBranches", name := "setBudget", desc := "(II)I" } : Jvm.MethodName) ({ cls := "PlanBranches", name := "setBudget", desc := "(II)I" } : Jvm.MethodName)) ∈ tbG := tbg 539 (by decide +kernel) (by decide +kernel)
theorem tw540 : (Jvm.Cond.code ({ cls := "PlanBranches", name := "setBudget", desc := "(II)I" } : Jvm.MethodName) prog_1_method_14_code (5 : Nat) (Option.some Jvm.ClassFile.FieldType.int)) ∈ tbG := tbg 540 (by decide +kernel) (by decide +kernel)
theorem tw541 : (Jvm.Cond.constant "PlanBranches" (164 : Nat) (1000000 : Int32)) ∈ tbG := tbg 541 (by decide +kernel) (by decide +kernel)
theorem tw542 : (Jvm.Cond.methodLink "PlanBranchesLaw" (166 : Nat) ({ cls := "PlanBranchesLaw", name := "resolve", desc := "(LPlanBranches;III[J)I" } : Jvm.MethodName)) ∈ tbG := tbg 542 (by decide +kernel) (by decide +kernel)
theorem tw543 : (Jvm.Cond.static ({ cls := "PlanBranchesLaw", name := "resolve", desc := "(LPlanBranches;III[J)I" } : Jvm.MethodName)) ∈ tbG := tbg 543 (by decide +kernel) (by decide +kernel)
theorem tw544 : (Jvm.Cond.codeWith ({ cls := "PlanBranchesLaw", name := "resolve", desc := "(LPlanBranches;III[J)I" } : Jvm.MethodName) method_15_code (6 : Nat) (Option.some Jvm.ClassFile.FieldType.int) [((0 : Nat), (12 : Nat), (15 : Nat), (13 : Nat)), ((0 : Nat), (12 : Nat), (19 : Nat), (15 : Nat)), ((0 : Nat), (12 : Nat), (23 : Nat), (21 : Nat))]) ∈ tbG := tbg 544 (by decide +kernel) (by decide +kernel)
theorem tw545 : (Jvm.Cond.methodLink "PlanBranchesLaw" (55 : Nat) ({ cls := "PlanBranches", name := "resolve", desc := "(III)I" } : Jvm.MethodName)) ∈ tbG := tbg 545 (by decide +kernel) (by decide +kernel)
theorem tw546 : (Jvm.Cond.instanceMethod ({ cls := "PlanBranches", name := "resolve", desc := "(III)I" } : Jvm.MethodName)) ∈ tbG := tbg 546 (by decide +kernel) (by decide +kernel)
theorem tw547 : (Jvm.Cond.selects "PlanBranches" ({ cls := "PlanBranches", name := "resolve", desc := "(III)I" } : Jvm.MethodName) ({ cls := "PlanBranches", name := "resolve", desc := "(III)I" } : Jvm.MethodName)) ∈ tbG := tbg 547 (by decide +kernel) (by decide +kernel)
theorem tw548 : (Jvm.Cond.code ({ cls := "PlanBranches", name := "resolve", desc := "(III)I" } : Jvm.MethodName) prog_1_method_15_code (6 : Nat) (Option.some Jvm.ClassFile.FieldType.int)) ∈ tbG := tbg 548 (by decide +kernel) (by decide +kernel)
theorem tw550 : (Jvm.Cond.methodLink "PlanBranchesLaw" (170 : Nat) ({ cls := "PlanBranchesLaw", name := "clashes", desc := "(LPlanBranches;I[J)I" } : Jvm.MethodName)) ∈ tbG := tbg 550 (by decide +kernel) (by decide +kernel)
theorem tw551 : (Jvm.Cond.static ({ cls := "PlanBranchesLaw", name := "clashes", desc := "(LPlanBranches;I[J)I" } : Jvm.MethodName)) ∈ tbG := tbg 551 (by decide +kernel) (by decide +kernel)
theorem tw552 : (Jvm.Cond.codeWith ({ cls := "PlanBranchesLaw", name := "clashes", desc := "(LPlanBranches;I[J)I" } : Jvm.MethodName) method_16_code (4 : Nat) (Option.some Jvm.ClassFile.FieldType.int) [((0 : Nat), (9 : Nat), (12 : Nat), (13 : Nat))]) ∈ tbG := tbg 552 (by decide +kernel) (by decide +kernel)
theorem tw553 : (Jvm.Cond.methodLink "PlanBranchesLaw" (59 : Nat) ({ cls := "PlanBranches", name := "clashes", desc := "(I)I" } : Jvm.MethodName)) ∈ tbG := tbg 553 (by decide +kernel) (by decide +kernel)
theorem tw554 : (Jvm.Cond.instanceMethod ({ cls := "PlanBranches", name := "clashes", desc := "(I)I" } : Jvm.MethodName)) ∈ tbG := tbg 554 (by decide +kernel) (by decide +kernel)
theorem tw555 : (Jvm.Cond.selects "PlanBranches" ({ cls := "PlanBranches", name := "clashes", desc := "(I)I" } : Jvm.MethodName) ({ cls := "PlanBranches", name := "clashes", desc := "(I)I" } : Jvm.MethodName)) ∈ tbG := tbg 555 (by decide +kernel) (by decide +kernel)
theorem tw556 : (Jvm.Cond.code ({ cls := "PlanBranches", name := "clashes", desc := "(I)I" } : Jvm.MethodName) prog_1_method_16_code (4 : Nat) (Option.some Jvm.ClassFile.FieldType.int)) ∈ tbG := tbg 556 (by decide +kernel) (by decide +kernel)
theorem tw557 : (Jvm.Cond.methodLink "PlanBranches" (173 : Nat) ({ cls := "PlanBranches$Joint", name := "join", desc := "(LPlanBranches$Branch;LPlanBranches$Branch;)V" } : Jvm.MethodName)) ∈ tbG := tbg 557 (by decide +kernel) (by decide +kernel)
theorem tw558 : (Jvm.Cond.instanceMethod ({ cls := "PlanBranches$Joint", name := "join", desc := "(LPlanBranches$Branch;LPlanBranches$Branch;)V" } : Jvm.MethodName)) ∈ tbG := tbg 558 (by decide +kernel) (by decide +kernel)
theorem tw559 : (Jvm.Cond.selects "PlanBranches$Joint" ({ cls := "PlanBranches$Joint", name := "join", desc := "(LPlanBranches$Branch;LPlanBranches$Branch;)V" } : Jvm.MethodName) ({ cls := "PlanBranches$Joint", name := "join", desc := "(LPlanBranches$Branch;LPlanBranches$Branch;)V" } : Jvm.MethodName)) ∈ tbG := tbg 559 (by decide +kernel) (by decide +kernel)
theorem tw560 : (Jvm.Cond.code ({ cls := "PlanBranches$Joint", name := "join", desc := "(LPlanBranches$Branch;LPlanBranches$Branch;)V" } : Jvm.MethodName) prog_5_method_2_code (4 : Nat) (Option.none : Option Jvm.ClassFile.FieldType)) ∈ tbG := tbg 560 (by decide +kernel) (by decide +kernel)
theorem tw561 : (Jvm.Cond.methodLink "PlanBranches$Joint" (31 : Nat) ({ cls := "PlanBranches$Joint", name := "clash", desc := "(LPlanBranches$Plan;LPlanBranches$Plan;LPlanBranches$Plan;I)Z" } : Jvm.MethodName)) ∈ tbG := tbg 561 (by decide +kernel) (by decide +kernel)
theorem tw562 : (Jvm.Cond.static ({ cls := "PlanBranches$Joint", name := "clash", desc := "(LPlanBranches$Plan;LPlanBranches$Plan;LPlanBranches$Plan;I)Z" } : Jvm.MethodName)) ∈ tbG := tbg 562 (by decide +kernel) (by decide +kernel)
theorem tw563 : (Jvm.Cond.code ({ cls := "PlanBranches$Joint", name := "clash", desc := "(LPlanBranches$Plan;LPlanBranches$Plan;LPlanBranches$Plan;I)Z" } : Jvm.MethodName) prog_5_method_3_code (4 : Nat) (Option.some Jvm.ClassFile.FieldType.boolean)) ∈ tbG := tbg 563 (by decide +kernel) (by decide +kernel)
theorem tw564 : (Jvm.Cond.methodLink "PlanBranches$Joint" (47 : Nat) ({ cls := "PlanBranches$Plan", name := "same", desc := "(LPlanBranches$Plan;I)Z" } : Jvm.MethodName)) ∈ tbG := tbg 564 (by decide +kernel) (by decide +kernel)
theorem tw565 : (Jvm.Cond.instanceMethod ({ cls := "PlanBranches$Plan", name := "same", desc := "(LPlanBranches$Plan;I)Z" } : Jvm.MethodName)) ∈ tbG := tbg 565 (by decide +kernel) (by decide +kernel)
theorem tw566 : (Jvm.Cond.selects "PlanBranches$Plan" ({ cls := "PlanBranches$Plan", name := "same", desc := "(LPlanBranches$Plan;I)Z" } : Jvm.MethodName) ({ cls := "PlanBranches$Plan", name := "same", desc := "(LPlanBranches$Plan;I)Z" } : Jvm.MethodName)) ∈ tbG := tbg 566 (by decide +kernel) (by decide +kernel)
theorem tw567 : (Jvm.Cond.code ({ cls := "PlanBranches$Plan", name := "same", desc := "(LPlanBranches$Plan;I)Z" } : Jvm.MethodName) prog_6_method_7_code (3 : Nat) (Option.some Jvm.ClassFile.FieldType.boolean)) ∈ tbG := tbg 567 (by decide +kernel) (by decide +kernel)
theorem tw568 : (Jvm.Cond.methodLink "PlanBranches$Joint" (51 : Nat) ({ cls := "PlanBranches$Plan", name := "has", desc := "(I)Z" } : Jvm.MethodName)) ∈ tbG := tbg 568 (by decide +kernel) (by decide +kernel)
theorem tw569 : (Jvm.Cond.methodLink "PlanBranches$Joint" (58 : Nat) ({ cls := "PlanBranches$Joint", name := "apart", desc := "(III)Z" } : Jvm.MethodName)) ∈ tbG := tbg 569 (by decide +kernel) (by decide +kernel)
theorem tw570 : (Jvm.Cond.static ({ cls := "PlanBranches$Joint", name := "apart", desc := "(III)Z" } : Jvm.MethodName)) ∈ tbG := tbg 570 (by decide +kernel) (by decide +kernel)
theorem tw571 : (Jvm.Cond.code ({ cls := "PlanBranches$Joint", name := "apart", desc := "(III)Z" } : Jvm.MethodName) prog_5_method_4_code (3 : Nat) (Option.some Jvm.ClassFile.FieldType.boolean)) ∈ tbG := tbg 571 (by decide +kernel) (by decide +kernel)
theorem tw572 : (Jvm.Cond.methodLink "PlanBranches$Joint" (39 : Nat) ({ cls := "PlanBranches$Plan", name := "take", desc := "(LPlanBranches$Plan;I)V" } : Jvm.MethodName)) ∈ tbG := tbg 572 (by decide +kernel) (by decide +kernel)
theorem tw573 : (Jvm.Cond.methodLink "PlanBranches$Joint" (43 : Nat) ({ cls := "PlanBranches$Joint", name := "joinTask", desc := "(LPlanBranches$Plan;LPlanBranches$Plan;LPlanBranches$Plan;I)V" } : Jvm.MethodName)) ∈ tbG := tbg 573 (by decide +kernel) (by decide +kernel)
theorem tw575 : (Jvm.Cond.instanceMethod ({ cls := "PlanBranches$Joint", name := "joinTask", desc := "(LPlanBranches$Plan;LPlanBranches$Plan;LPlanBranches$Plan;I)V" } : Jvm.MethodName)) ∈ tbG := tbg 575 (by decide +kernel) (by decide +kernel)
theorem tw576 : (Jvm.Cond.code ({ cls := "PlanBranches$Joint", name := "joinTask", desc := "(LPlanBranches$Plan;LPlanBranches$Plan;LPlanBranches$Plan;I)V" } : Jvm.MethodName) prog_5_method_5_code (6 : Nat) (Option.none : Option Jvm.ClassFile.FieldType)) ∈ tbG := tbg 576 (by decide +kernel) (by decide +kernel)
theorem tw577 : (Jvm.Cond.methodLink "PlanBranches$Joint" (71 : Nat) ({ cls := "PlanBranches$Joint", name := "mixed", desc := "(III)I" } : Jvm.MethodName)) ∈ tbG := tbg 577 (by decide +kernel) (by decide +kernel)
theorem tw578 : (Jvm.Cond.static ({ cls := "PlanBranches$Joint", name := "mixed", desc := "(III)I" } : Jvm.MethodName)) ∈ tbG := tbg 578 (by decide +kernel) (by decide +kernel)
theorem tw579 : (Jvm.Cond.code ({ cls := "PlanBranches$Joint", name := "mixed", desc := "(III)I" } : Jvm.MethodName) prog_5_method_6_code (3 : Nat) (Option.some Jvm.ClassFile.FieldType.int)) ∈ tbG := tbg 579 (by decide +kernel) (by decide +kernel)
theorem tw580 : (Jvm.Cond.methodLink "PlanBranches$Joint" (75 : Nat) ({ cls := "PlanBranches$Plan", name := "put", desc := "(IIIII)V" } : Jvm.MethodName)) ∈ tbG := tbg 580 (by decide +kernel) (by decide +kernel)
theorem tw581 : (Jvm.Cond.methodLink "PlanBranchesLaw" (173 : Nat) ({ cls := "PlanBranchesLaw", name := "reason", desc := "(LPlanBranches;IZ[J)I" } : Jvm.MethodName)) ∈ tbG := tbg 581 (by decide +kernel) (by decide +kernel)
theorem tw582 : (Jvm.Cond.static ({ cls := "PlanBranchesLaw", name := "reason", desc := "(LPlanBranches;IZ[J)I" } : Jvm.MethodName)) ∈ tbG := tbg 582 (by decide +kernel) (by decide +kernel)
theorem tw583 : (Jvm.Cond.codeWith ({ cls := "PlanBranchesLaw", name := "reason", desc := "(LPlanBranches;IZ[J)I" } : Jvm.MethodName) method_17_code (5 : Nat) (Option.some Jvm.ClassFile.FieldType.int) [((0 : Nat), (10 : Nat), (13 : Nat), (13 : Nat)), ((0 : Nat), (10 : Nat), (17 : Nat), (21 : Nat))]) ∈ tbG := tbg 583 (by decide +kernel) (by decide +kernel)
theorem tw584 : (Jvm.Cond.methodLink "PlanBranchesLaw" (62 : Nat) ({ cls := "PlanBranches", name := "reason", desc := "(IZ)I" } : Jvm.MethodName)) ∈ tbG := tbg 584 (by decide +kernel) (by decide +kernel)
theorem tw585 : (Jvm.Cond.instanceMethod ({ cls := "PlanBranches", name := "reason", desc := "(IZ)I" } : Jvm.MethodName)) ∈ tbG := tbg 585 (by decide +kernel) (by decide +kernel)
theorem tw586 : (Jvm.Cond.selects "PlanBranches" ({ cls := "PlanBranches", name := "reason", desc := "(IZ)I" } : Jvm.MethodName) ({ cls := "PlanBranches", name := "reason", desc := "(IZ)I" } : Jvm.MethodName)) ∈ tbG := tbg 586 (by decide +kernel) (by decide +kernel)
theorem tw587 : (Jvm.Cond.code ({ cls := "PlanBranches", name := "reason", desc := "(IZ)I" } : Jvm.MethodName) prog_1_method_17_code (5 : Nat) (Option.some Jvm.ClassFile.FieldType.int)) ∈ tbG := tbg 587 (by decide +kernel) (by decide +kernel)
theorem tw588 : (Jvm.Cond.methodLink "PlanBranches" (180 : Nat) ({ cls := "PlanBranches", name := "parentOf", desc := "(LPlanBranches$Branch;)LPlanBranches$Branch;" } : Jvm.MethodName)) ∈ tbG := tbg 588 (by decide +kernel) (by decide +kernel)
theorem tw589 : (Jvm.Cond.static ({ cls := "PlanBranches", name := "parentOf", desc := "(LPlanBranches$Branch;)LPlanBranches$Branch;" } : Jvm.MethodName)) ∈ tbG := tbg 589 (by decide +kernel) (by decide +kernel)
theorem tw590 : (Jvm.Cond.code ({ cls := "PlanBranches", name := "parentOf", desc := "(LPlanBranches$Branch;)LPlanBranches$Branch;" } : Jvm.MethodName) prog_1_method_34_code (2 : Nat) (Option.some (Jvm.ClassFile.FieldType.object "PlanBranches$Branch"))) ∈ tbG := tbg 590 (by decide +kernel) (by decide +kernel)
theorem tw591 : (Jvm.Cond.methodLink "PlanBranches" (184 : Nat) ({ cls := "PlanBranches", name := "judge", desc := "(LPlanBranches$Branch;LPlanBranches$Branch;LPlanBranches$Branch;)I" } : Jvm.MethodName)) ∈ tbG := tbg 591 (by decide +kernel) (by decide +kernel)
theorem tw593 : (Jvm.Cond.instanceMethod ({ cls := "PlanBranches", name := "judge", desc := "(LPlanBranches$Branch;LPlanBranches$Branch;LPlanBranches$Branch;)I" } : Jvm.MethodName)) ∈ tbG := tbg 593 (by decide +kernel) (by decide +kernel)
theorem tw594 : (Jvm.Cond.code ({ cls := "PlanBranches", name := "judge", desc := "(LPlanBranches$Branch;LPlanBranches$Branch;LPlanBranches$Branch;)I" } : Jvm.MethodName) prog_1_method_40_code (5 : Nat) (Option.some Jvm.ClassFile.FieldType.int)) ∈ tbG := tbg 594 (by decide +kernel) (by decide +kernel)
theorem tw595 : (Jvm.Cond.methodLink "PlanBranches" (281 : Nat) ({ cls := "PlanBranches$Plan", name := "lacking", desc := "()I" } : Jvm.MethodName)) ∈ tbG := tbg 595 (by decide +kernel) (by decide +kernel)
theorem tw596 : (Jvm.Cond.instanceMethod ({ cls := "PlanBranches$Plan", name := "lacking", desc := "()I" } : Jvm.MethodName)) ∈ tbG := tbg 596 (by decide +kernel) (by decide +kernel)
theorem tw597 : (Jvm.Cond.selects "PlanBranches$Plan" ({ cls := "PlanBranches$Plan", name := "lacking", desc := "()I" } : Jvm.MethodName) ({ cls := "PlanBranches$Plan", name := "lacking", desc := "()I" } : Jvm.MethodName)) ∈ tbG := tbg 597 (by decide +kernel) (by decide +kernel)
theorem tw598 : (Jvm.Cond.code ({ cls := "PlanBranches$Plan", name := "lacking", desc := "()I" } : Jvm.MethodName) prog_6_method_13_code (4 : Nat) (Option.some Jvm.ClassFile.FieldType.int)) ∈ tbG := tbg 598 (by decide +kernel) (by decide +kernel)
theorem tw599 : (Jvm.Cond.methodLink "PlanBranches$Plan" (44 : Nat) ({ cls := "PlanBranches$Plan", name := "present", desc := "()I" } : Jvm.MethodName)) ∈ tbG := tbg 599 (by decide +kernel) (by decide +kernel)
theorem tw600 : (Jvm.Cond.methodLink "PlanBranches" (284 : Nat) ({ cls := "PlanBranches$Plan", name := "ringed", desc := "()I" } : Jvm.MethodName)) ∈ tbG := tbg 600 (by decide +kernel) (by decide +kernel)
theorem tw601 : (Jvm.Cond.instanceMethod ({ cls := "PlanBranches$Plan", name := "ringed", desc := "()I" } : Jvm.MethodName)) ∈ tbG := tbg 601 (by decide +kernel) (by decide +kernel)
theorem tw602 : (Jvm.Cond.selects "PlanBranches$Plan" ({ cls := "PlanBranches$Plan", name := "ringed", desc := "()I" } : Jvm.MethodName) ({ cls := "PlanBranches$Plan", name := "ringed", desc := "()I" } : Jvm.MethodName)) ∈ tbG := tbg 602 (by decide +kernel) (by decide +kernel)
theorem tw603 : (Jvm.Cond.code ({ cls := "PlanBranches$Plan", name := "ringed", desc := "()I" } : Jvm.MethodName) prog_6_method_14_code (3 : Nat) (Option.some Jvm.ClassFile.FieldType.int)) ∈ tbG := tbg 603 (by decide +kernel) (by decide +kernel)
theorem tw604 : (Jvm.Cond.methodLink "PlanBranches$Plan" (48 : Nat) ({ cls := "PlanBranches$Plan", name := "allNeeds", desc := "(I)I" } : Jvm.MethodName)) ∈ tbG := tbg 604 (by decide +kernel) (by decide +kernel)
theorem tw605 : (Jvm.Cond.methodLink "PlanBranches" (231 : Nat) ({ cls := "PlanBranches", name := "placeByRule", desc := "(LPlanBranches$Plan;LPlanBranches$Branch;)V" } : Jvm.MethodName)) ∈ tbG := tbg 605 (by decide +kernel) (by decide +kernel)
theorem tw607 : (Jvm.Cond.instanceMethod ({ cls := "PlanBranches", name := "placeByRule", desc := "(LPlanBranches$Plan;LPlanBranches$Branch;)V" } : Jvm.MethodName)) ∈ tbG := tbg 607 (by decide +kernel) (by decide +kernel)
theorem tw608 : (Jvm.Cond.code ({ cls := "PlanBranches", name := "placeByRule", desc := "(LPlanBranches$Plan;LPlanBranches$Branch;)V" } : Jvm.MethodName) prog_1_method_39_code (3 : Nat) (Option.none : Option Jvm.ClassFile.FieldType)) ∈ tbG := tbg 608 (by decide +kernel) (by decide +kernel)
theorem tw609 : (Jvm.Cond.methodLink "PlanBranches" (219 : Nat) ({ cls := "PlanBranches$Ways", name := "measure", desc := "(LPlanBranches$Plan;)V" } : Jvm.MethodName)) ∈ tbG := tbg 609 (by decide +kernel) (by decide +kernel)
theorem tw610 : (Jvm.Cond.instanceMethod ({ cls := "PlanBranches$Ways", name := "measure", desc := "(LPlanBranches$Plan;)V" } : Jvm.MethodName)) ∈ tbG := tbg 610 (by decide +kernel) (by decide +kernel)
theorem tw611 : (Jvm.Cond.selects "PlanBranches$Ways" ({ cls := "PlanBranches$Ways", name := "measure", desc := "(LPlanBranches$Plan;)V" } : Jvm.MethodName) ({ cls := "PlanBranches$Ways", name := "measure", desc := "(LPlanBranches$Plan;)V" } : Jvm.MethodName)) ∈ tbG := tbg 611 (by decide +kernel) (by decide +kernel)
theorem tw612 : (Jvm.Cond.code ({ cls := "PlanBranches$Ways", name := "measure", desc := "(LPlanBranches$Plan;)V" } : Jvm.MethodName) prog_8_method_2_code (5 : Nat) (Option.none : Option Jvm.ClassFile.FieldType)) ∈ tbG := tbg 612 (by decide +kernel) (by decide +kernel)
theorem tw613 : (Jvm.Cond.methodLink "PlanBranches$Ways" (23 : Nat) ({ cls := "PlanBranches$Ways", name := "stretch", desc := "(LPlanBranches$Plan;I)Z" } : Jvm.MethodName)) ∈ tbG := tbg 613 (by decide +kernel) (by decide +kernel)
theorem tw615 : (Jvm.Cond.instanceMethod ({ cls := "PlanBranches$Ways", name := "stretch", desc := "(LPlanBranches$Plan;I)Z" } : Jvm.MethodName)) ∈ tbG := tbg 615 (by decide +kernel) (by decide +kernel)
theorem tw616 : (Jvm.Cond.code ({ cls := "PlanBranches$Ways", name := "stretch", desc := "(LPlanBranches$Plan;I)Z" } : Jvm.MethodName) prog_8_method_3_code (7 : Nat) (Option.some Jvm.ClassFile.FieldType.boolean)) ∈ tbG := tbg 616 (by decide +kernel) (by decide +kernel)
theorem tw617 : (Jvm.Cond.methodLinkNest "PlanBranches$Ways" (40 : Nat) ({ cls := "PlanBranches", name := "contains", desc := "(II)Z" } : Jvm.MethodName) "PlanBranches") ∈ tbX := tbx 617 (by decide +kernel) (by decide +kernel)
theorem tw618 : (Jvm.Cond.methodLink "PlanBranches$Ways" (31 : Nat) ({ cls := "java/lang/Math", name := "max", desc := "(II)I" } : Jvm.MethodName)) ∈ tbG := tbg 618 (by decide +kernel) (by decide +kernel)
theorem tw619 : (Jvm.Cond.static ({ cls := "java/lang/Math", name := "max", desc := "(II)I" } : Jvm.MethodName)) ∈ tbG := tbg 619 (by decide +kernel) (by decide +kernel)
theorem tw620 : (Jvm.Cond.code ({ cls := "java/lang/Math", name := "max", desc := "(II)I" } : Jvm.MethodName) prog_16_method_65_code (2 : Nat) (Option.some Jvm.ClassFile.FieldType.int)) ∈ tbG := tbg 620 (by decide +kernel) (by decide +kernel)
theorem tw621 : (Jvm.Cond.methodLink "PlanBranches" (251 : Nat) ({ cls := "PlanBranches$Schedule", name := "start", desc := "(LPlanBranches$Crews;I)V" } : Jvm.MethodName)) ∈ tbG := tbg 621 (by decide +kernel) (by decide +kernel)
theorem tw622 : (Jvm.Cond.instanceMethod ({ cls := "PlanBranches$Schedule", name := "start", desc := "(LPlanBranches$Crews;I)V" } : Jvm.MethodName)) ∈ tbG := tbg 622 (by decide +kernel) (by decide +kernel)
theorem tw623 : (Jvm.Cond.selects "PlanBranches$Schedule" ({ cls := "PlanBranches$Schedule", name := "start", desc := "(LPlanBranches$Crews;I)V" } : Jvm.MethodName) ({ cls := "PlanBranches$Schedule", name := "start", desc := "(LPlanBranches$Crews;I)V" } : Jvm.MethodName)) ∈ tbG := tbg 623 (by decide +kernel) (by decide +kernel)
theorem tw624 : (Jvm.Cond.code ({ cls := "PlanBranches$Schedule", name := "start", desc := "(LPlanBranches$Crews;I)V" } : Jvm.MethodName) prog_7_method_2_code (5 : Nat) (Option.none : Option Jvm.ClassFile.FieldType)) ∈ tbG := tbg 624 (by decide +kernel) (by decide +kernel)
theorem tw625 : (Jvm.Cond.methodLink "PlanBranches$Schedule" (24 : Nat) ({ cls := "java/util/Arrays", name := "fill", desc := "([II)V" } : Jvm.MethodName)) ∈ tbG := tbg 625 (by decide +kernel) (by decide +kernel)
theorem tw626 : (Jvm.Cond.static ({ cls := "java/util/Arrays", name := "fill", desc := "([II)V" } : Jvm.MethodName)) ∈ tbG := tbg 626 (by decide +kernel) (by decide +kernel)
theorem tw627 : (Jvm.Cond.code ({ cls := "java/util/Arrays", name := "fill", desc := "([II)V" } : Jvm.MethodName) prog_20_method_103_code (4 : Nat) (Option.none : Option Jvm.ClassFile.FieldType)) ∈ tbG := tbg 627 (by decide +kernel) (by decide +kernel)
theorem tw628 : (Jvm.Cond.methodLink "PlanBranches$Schedule" (30 : Nat) ({ cls := "PlanBranches$Crews", name := "heldBy", desc := "(II)I" } : Jvm.MethodName)) ∈ tbG := tbg 628 (by decide +kernel) (by decide +kernel)
theorem tw629 : (Jvm.Cond.instanceMethod ({ cls := "PlanBranches$Crews", name := "heldBy", desc := "(II)I" } : Jvm.MethodName)) ∈ tbG := tbg 629 (by decide +kernel) (by decide +kernel)
theorem tw630 : (Jvm.Cond.selects "PlanBranches$Crews" ({ cls := "PlanBranches$Crews", name := "heldBy", desc := "(II)I" } : Jvm.MethodName) ({ cls := "PlanBranches$Crews", name := "heldBy", desc := "(II)I" } : Jvm.MethodName)) ∈ tbG := tbg 630 (by decide +kernel) (by decide +kernel)
theorem tw631 : (Jvm.Cond.code ({ cls := "PlanBranches$Crews", name := "heldBy", desc := "(II)I" } : Jvm.MethodName) prog_3_method_3_code (4 : Nat) (Option.some Jvm.ClassFile.FieldType.int)) ∈ tbG := tbg 631 (by decide +kernel) (by decide +kernel)
theorem tw632 : (Jvm.Cond.methodLink "PlanBranches" (274 : Nat) ({ cls := "PlanBranches$Schedule", name := "placeByTails", desc := "(LPlanBranches$Plan;[I)V" } : Jvm.MethodName)) ∈ tbG := tbg 632 (by decide +kernel) (by decide +kernel)
theorem tw633 : (Jvm.Cond.instanceMethod ({ cls := "PlanBranches$Schedule", name := "placeByTails", desc := "(LPlanBranches$Plan;[I)V" } : Jvm.MethodName)) ∈ tbG := tbg 633 (by decide +kernel) (by decide +kernel)
theorem tw634 : (Jvm.Cond.selects "PlanBranches$Schedule" ({ cls := "PlanBranches$Schedule", name := "placeByTails", desc := "(LPlanBranches$Plan;[I)V" } : Jvm.MethodName) ({ cls := "PlanBranches$Schedule", name := "placeByTails", desc := "(LPlanBranches$Plan;[I)V" } : Jvm.MethodName)) ∈ tbG := tbg 634 (by decide +kernel) (by decide +kernel)
theorem tw635 : (Jvm.Cond.code ({ cls := "PlanBranches$Schedule", name := "placeByTails", desc := "(LPlanBranches$Plan;[I)V" } : Jvm.MethodName) prog_7_method_3_code (7 : Nat) (Option.none : Option Jvm.ClassFile.FieldType)) ∈ tbG := tbg 635 (by decide +kernel) (by decide +kernel)
theorem tw636 : (Jvm.Cond.methodLink "PlanBranches$Schedule" (36 : Nat) ({ cls := "PlanBranches$Plan", name := "present", desc := "()I" } : Jvm.MethodName)) ∈ tbG := tbg 636 (by decide +kernel) (by decide +kernel)
theorem tw637 : (Jvm.Cond.methodLink "PlanBranches$Schedule" (42 : Nat) ({ cls := "PlanBranches$Schedule", name := "nextByTails", desc := "(LPlanBranches$Plan;I[I)I" } : Jvm.MethodName)) ∈ tbG := tbg 637 (by decide +kernel) (by decide +kernel)
theorem tw639 : (Jvm.Cond.instanceMethod ({ cls := "PlanBranches$Schedule", name := "nextByTails", desc := "(LPlanBranches$Plan;I[I)I" } : Jvm.MethodName)) ∈ tbG := tbg 639 (by decide +kernel) (by decide +kernel)
theorem tw640 : (Jvm.Cond.code ({ cls := "PlanBranches$Schedule", name := "nextByTails", desc := "(LPlanBranches$Plan;I[I)I" } : Jvm.MethodName) prog_7_method_4_code (7 : Nat) (Option.some Jvm.ClassFile.FieldType.int)) ∈ tbG := tbg 640 (by decide +kernel) (by decide +kernel)
theorem tw641 : (Jvm.Cond.methodLink "PlanBranches$Schedule" (54 : Nat) ({ cls := "PlanBranches$Schedule", name := "ready", desc := "(LPlanBranches$Plan;II)Z" } : Jvm.MethodName)) ∈ tbG := tbg 641 (by decide +kernel) (by decide +kernel)
theorem tw643 : (Jvm.Cond.instanceMethod ({ cls := "PlanBranches$Schedule", name := "ready", desc := "(LPlanBranches$Plan;II)Z" } : Jvm.MethodName)) ∈ tbG := tbg 643 (by decide +kernel) (by decide +kernel)
theorem tw644 : (Jvm.Cond.code ({ cls := "PlanBranches$Schedule", name := "ready", desc := "(LPlanBranches$Plan;II)Z" } : Jvm.MethodName) prog_7_method_7_code (4 : Nat) (Option.some Jvm.ClassFile.FieldType.boolean)) ∈ tbG := tbg 644 (by decide +kernel) (by decide +kernel)
theorem tw645 : (Jvm.Cond.methodLinkNest "PlanBranches$Schedule" (73 : Nat) ({ cls := "PlanBranches", name := "contains", desc := "(II)Z" } : Jvm.MethodName) "PlanBranches") ∈ tbX := tbx 645 (by decide +kernel) (by decide +kernel)
theorem tw646 : (Jvm.Cond.methodLink "PlanBranches$Schedule" (46 : Nat) ({ cls := "PlanBranches$Schedule", name := "earliest", desc := "(LPlanBranches$Plan;I)I" } : Jvm.MethodName)) ∈ tbG := tbg 646 (by decide +kernel) (by decide +kernel)
theorem tw648 : (Jvm.Cond.instanceMethod ({ cls := "PlanBranches$Schedule", name := "earliest", desc := "(LPlanBranches$Plan;I)I" } : Jvm.MethodName)) ∈ tbG := tbg 648 (by decide +kernel) (by decide +kernel)
theorem tw649 : (Jvm.Cond.code ({ cls := "PlanBranches$Schedule", name := "earliest", desc := "(LPlanBranches$Plan;I)I" } : Jvm.MethodName) prog_7_method_8_code (8 : Nat) (Option.some Jvm.ClassFile.FieldType.int)) ∈ tbG := tbg 649 (by decide +kernel) (by decide +kernel)
theorem tw650 : (Jvm.Cond.methodLink "PlanBranches$Schedule" (83 : Nat) ({ cls := "PlanBranches$Schedule", name := "dayBehindNeeds", desc := "(LPlanBranches$Plan;I)I" } : Jvm.MethodName)) ∈ tbG := tbg 650 (by decide +kernel) (by decide +kernel)
theorem tw652 : (Jvm.Cond.instanceMethod ({ cls := "PlanBranches$Schedule", name := "dayBehindNeeds", desc := "(LPlanBranches$Plan;I)I" } : Jvm.MethodName)) ∈ tbG := tbg 652 (by decide +kernel) (by decide +kernel)
theorem tw653 : (Jvm.Cond.code ({ cls := "PlanBranches$Schedule", name := "dayBehindNeeds", desc := "(LPlanBranches$Plan;I)I" } : Jvm.MethodName) prog_7_method_9_code (5 : Nat) (Option.some Jvm.ClassFile.FieldType.int)) ∈ tbG := tbg 653 (by decide +kernel) (by decide +kernel)
theorem tw654 : (Jvm.Cond.methodLink "PlanBranches$Schedule" (65 : Nat) ({ cls := "java/lang/Math", name := "max", desc := "(II)I" } : Jvm.MethodName)) ∈ tbG := tbg 654 (by decide +kernel) (by decide +kernel)
theorem tw655 : (Jvm.Cond.methodLink "PlanBranches$Schedule" (50 : Nat) ({ cls := "PlanBranches$Schedule", name := "place", desc := "(LPlanBranches$Plan;II)V" } : Jvm.MethodName)) ∈ tbG := tbg 655 (by decide +kernel) (by decide +kernel)
theorem tw657 : (Jvm.Cond.instanceMethod ({ cls := "PlanBranches$Schedule", name := "place", desc := "(LPlanBranches$Plan;II)V" } : Jvm.MethodName)) ∈ tbG := tbg 657 (by decide +kernel) (by decide +kernel)
theorem tw658 : (Jvm.Cond.code ({ cls := "PlanBranches$Schedule", name := "place", desc := "(LPlanBranches$Plan;II)V" } : Jvm.MethodName) prog_7_method_10_code (4 : Nat) (Option.none : Option Jvm.ClassFile.FieldType)) ∈ tbG := tbg 658 (by decide +kernel) (by decide +kernel)
theorem tw659 : (Jvm.Cond.methodLink "PlanBranches$Schedule" (86 : Nat) ({ cls := "PlanBranches$Schedule", name := "markWork", desc := "(LPlanBranches$Plan;III)V" } : Jvm.MethodName)) ∈ tbG := tbg 659 (by decide +kernel) (by decide +kernel)
theorem tw661 : (Jvm.Cond.instanceMethod ({ cls := "PlanBranches$Schedule", name := "markWork", desc := "(LPlanBranches$Plan;III)V" } : Jvm.MethodName)) ∈ tbG := tbg 661 (by decide +kernel) (by decide +kernel)
theorem tw662 : (Jvm.Cond.code ({ cls := "PlanBranches$Schedule", name := "markWork", desc := "(LPlanBranches$Plan;III)V" } : Jvm.MethodName) prog_7_method_12_code (8 : Nat) (Option.none : Option Jvm.ClassFile.FieldType)) ∈ tbG := tbg 662 (by decide +kernel) (by decide +kernel)
theorem tw663 : (Jvm.Cond.methodLink "PlanBranchesLaw" (177 : Nat) ({ cls := "PlanBranchesLaw", name := "reasonTask", desc := "(LPlanBranches;IZ[J)I" } : Jvm.MethodName)) ∈ tbG := tbg 663 (by decide +kernel) (by decide +kernel)
theorem tw664 : (Jvm.Cond.static ({ cls := "PlanBranchesLaw", name := "reasonTask", desc := "(LPlanBranches;IZ[J)I" } : Jvm.MethodName)) ∈ tbG := tbg 664 (by decide +kernel) (by decide +kernel)
theorem tw665 : (Jvm.Cond.codeWith ({ cls := "PlanBranchesLaw", name := "reasonTask", desc := "(LPlanBranches;IZ[J)I" } : Jvm.MethodName) method_18_code (5 : Nat) (Option.some Jvm.ClassFile.FieldType.int) [((0 : Nat), (10 : Nat), (13 : Nat), (13 : Nat)), ((0 : Nat), (10 : Nat), (17 : Nat), (21 : Nat))]) ∈ tbG := tbg 665 (by decide +kernel) (by decide +kernel)
theorem tw666 : (Jvm.Cond.methodLink "PlanBranchesLaw" (66 : Nat) ({ cls := "PlanBranches", name := "reasonTask", desc := "(IZ)I" } : Jvm.MethodName)) ∈ tbG := tbg 666 (by decide +kernel) (by decide +kernel)
theorem tw667 : (Jvm.Cond.instanceMethod ({ cls := "PlanBranches", name := "reasonTask", desc := "(IZ)I" } : Jvm.MethodName)) ∈ tbG := tbg 667 (by decide +kernel) (by decide +kernel)
theorem tw668 : (Jvm.Cond.selects "PlanBranches" ({ cls := "PlanBranches", name := "reasonTask", desc := "(IZ)I" } : Jvm.MethodName) ({ cls := "PlanBranches", name := "reasonTask", desc := "(IZ)I" } : Jvm.MethodName)) ∈ tbG := tbg 668 (by decide +kernel) (by decide +kernel)
theorem tw669 : (Jvm.Cond.code ({ cls := "PlanBranches", name := "reasonTask", desc := "(IZ)I" } : Jvm.MethodName) prog_1_method_18_code (5 : Nat) (Option.some Jvm.ClassFile.FieldType.int)) ∈ tbG := tbg 669 (by decide +kernel) (by decide +kernel)
theorem tw670 : (Jvm.Cond.methodLink "PlanBranches" (188 : Nat) ({ cls := "PlanBranches", name := "lowest", desc := "(I)I" } : Jvm.MethodName)) ∈ tbG := tbg 670 (by decide +kernel) (by decide +kernel)
theorem tw671 : (Jvm.Cond.static ({ cls := "PlanBranches", name := "lowest", desc := "(I)I" } : Jvm.MethodName)) ∈ tbG := tbg 671 (by decide +kernel) (by decide +kernel)
theorem tw672 : (Jvm.Cond.code ({ cls := "PlanBranches", name := "lowest", desc := "(I)I" } : Jvm.MethodName) prog_1_method_38_code (2 : Nat) (Option.some Jvm.ClassFile.FieldType.int)) ∈ tbG := tbg 672 (by decide +kernel) (by decide +kernel)
theorem tw673 : (Jvm.Cond.methodLink "PlanBranchesLaw" (180 : Nat) ({ cls := "PlanBranchesLaw", name := "merge", desc := "(LPlanBranches;I[J)I" } : Jvm.MethodName)) ∈ tbG := tbg 673 (by decide +kernel) (by decide +kernel)
theorem tw674 : (Jvm.Cond.static ({ cls := "PlanBranchesLaw", name := "merge", desc := "(LPlanBranches;I[J)I" } : Jvm.MethodName)) ∈ tbG := tbg 674 (by decide +kernel) (by decide +kernel)
theorem tw675 : (Jvm.Cond.codeWith ({ cls := "PlanBranchesLaw", name := "merge", desc := "(LPlanBranches;I[J)I" } : Jvm.MethodName) method_19_code (4 : Nat) (Option.some Jvm.ClassFile.FieldType.int) [((0 : Nat), (9 : Nat), (12 : Nat), (13 : Nat)), ((0 : Nat), (9 : Nat), (15 : Nat), (21 : Nat))]) ∈ tbG := tbg 675 (by decide +kernel) (by decide +kernel)
theorem tw676 : (Jvm.Cond.methodLink "PlanBranchesLaw" (69 : Nat) ({ cls := "PlanBranches", name := "merge", desc := "(I)I" } : Jvm.MethodName)) ∈ tbG := tbg 676 (by decide +kernel) (by decide +kernel)
theorem tw677 : (Jvm.Cond.instanceMethod ({ cls := "PlanBranches", name := "merge", desc := "(I)I" } : Jvm.MethodName)) ∈ tbG := tbg 677 (by decide +kernel) (by decide +kernel)
theorem tw678 : (Jvm.Cond.selects "PlanBranches" ({ cls := "PlanBranches", name := "merge", desc := "(I)I" } : Jvm.MethodName) ({ cls := "PlanBranches", name := "merge", desc := "(I)I" } : Jvm.MethodName)) ∈ tbG := tbg 678 (by decide +kernel) (by decide +kernel)
theorem tw679 : (Jvm.Cond.code ({ cls := "PlanBranches", name := "merge", desc := "(I)I" } : Jvm.MethodName) prog_1_method_19_code (5 : Nat) (Option.some Jvm.ClassFile.FieldType.int)) ∈ tbG := tbg 679 (by decide +kernel) (by decide +kernel)
theorem tw681 : (Jvm.Cond.methodLink "PlanBranches" (194 : Nat) ({ cls := "PlanBranches$Plan", name := "countOthers", desc := "(LPlanBranches$Plan;)I" } : Jvm.MethodName)) ∈ tbG := tbg 681 (by decide +kernel) (by decide +kernel)
theorem tw682 : (Jvm.Cond.instanceMethod ({ cls := "PlanBranches$Plan", name := "countOthers", desc := "(LPlanBranches$Plan;)I" } : Jvm.MethodName)) ∈ tbG := tbg 682 (by decide +kernel) (by decide +kernel)
theorem tw683 : (Jvm.Cond.selects "PlanBranches$Plan" ({ cls := "PlanBranches$Plan", name := "countOthers", desc := "(LPlanBranches$Plan;)I" } : Jvm.MethodName) ({ cls := "PlanBranches$Plan", name := "countOthers", desc := "(LPlanBranches$Plan;)I" } : Jvm.MethodName)) ∈ tbG := tbg 683 (by decide +kernel) (by decide +kernel)
theorem tw684 : (Jvm.Cond.code ({ cls := "PlanBranches$Plan", name := "countOthers", desc := "(LPlanBranches$Plan;)I" } : Jvm.MethodName) prog_6_method_8_code (4 : Nat) (Option.some Jvm.ClassFile.FieldType.int)) ∈ tbG := tbg 684 (by decide +kernel) (by decide +kernel)
theorem tw685 : (Jvm.Cond.methodLink "PlanBranches$Plan" (32 : Nat) ({ cls := "PlanBranches$Plan", name := "same", desc := "(LPlanBranches$Plan;I)Z" } : Jvm.MethodName)) ∈ tbG := tbg 685 (by decide +kernel) (by decide +kernel)
theorem tw686 : (Jvm.Cond.methodLink "PlanBranches" (198 : Nat) ({ cls := "PlanBranches$Branch", name := "startFrom", desc := "(LPlanBranches$Plan;)V" } : Jvm.MethodName)) ∈ tbG := tbg 686 (by decide +kernel) (by decide +kernel)
theorem tw687 : (Jvm.Cond.instanceMethod ({ cls := "PlanBranches$Branch", name := "startFrom", desc := "(LPlanBranches$Plan;)V" } : Jvm.MethodName)) ∈ tbG := tbg 687 (by decide +kernel) (by decide +kernel)
theorem tw688 : (Jvm.Cond.selects "PlanBranches$Branch" ({ cls := "PlanBranches$Branch", name := "startFrom", desc := "(LPlanBranches$Plan;)V" } : Jvm.MethodName) ({ cls := "PlanBranches$Branch", name := "startFrom", desc := "(LPlanBranches$Plan;)V" } : Jvm.MethodName)) ∈ tbG := tbg 688 (by decide +kernel) (by decide +kernel)
theorem tw689 : (Jvm.Cond.code ({ cls := "PlanBranches$Branch", name := "startFrom", desc := "(LPlanBranches$Plan;)V" } : Jvm.MethodName) prog_2_method_2_code (2 : Nat) (Option.none : Option Jvm.ClassFile.FieldType)) ∈ tbG := tbg 689 (by decide +kernel) (by decide +kernel)
theorem tw690 : (Jvm.Cond.methodLink "PlanBranches$Branch" (44 : Nat) ({ cls := "PlanBranches$Plan", name := "copyFrom", desc := "(LPlanBranches$Plan;)V" } : Jvm.MethodName)) ∈ tbG := tbg 690 (by decide +kernel) (by decide +kernel)
theorem tw691 : (Jvm.Cond.methodLink "PlanBranches$Branch" (48 : Nat) ({ cls := "PlanBranches$History", name := "forget", desc := "()V" } : Jvm.MethodName)) ∈ tbG := tbg 691 (by decide +kernel) (by decide +kernel)
theorem tw692 : (Jvm.Cond.methodLink "PlanBranches$Branch" (51 : Nat) ({ cls := "java/util/Arrays", name := "fill", desc := "([II)V" } : Jvm.MethodName)) ∈ tbG := tbg 692 (by decide +kernel) (by decide +kernel)
theorem tw693 : (Jvm.Cond.methodLink "PlanBranchesLaw" (183 : Nat) ({ cls := "PlanBranchesLaw", name := "update", desc := "(LPlanBranches;I[J)I" } : Jvm.MethodName)) ∈ tbG := tbg 693 (by decide +kernel) (by decide +kernel)
theorem tw694 : (Jvm.Cond.static ({ cls := "PlanBranchesLaw", name := "update", desc := "(LPlanBranches;I[J)I" } : Jvm.MethodName)) ∈ tbG := tbg 694 (by decide +kernel) (by decide +kernel)
theorem tw695 : (Jvm.Cond.codeWith ({ cls := "PlanBranchesLaw", name := "update", desc := "(LPlanBranches;I[J)I" } : Jvm.MethodName) method_20_code (4 : Nat) (Option.some Jvm.ClassFile.FieldType.int) [((0 : Nat), (9 : Nat), (12 : Nat), (13 : Nat)), ((0 : Nat), (9 : Nat), (15 : Nat), (21 : Nat))]) ∈ tbG := tbg 695 (by decide +kernel) (by decide +kernel)
theorem tw696 : (Jvm.Cond.methodLink "PlanBranchesLaw" (72 : Nat) ({ cls := "PlanBranches", name := "update", desc := "(I)I" } : Jvm.MethodName)) ∈ tbG := tbg 696 (by decide +kernel) (by decide +kernel)
theorem tw697 : (Jvm.Cond.instanceMethod ({ cls := "PlanBranches", name := "update", desc := "(I)I" } : Jvm.MethodName)) ∈ tbG := tbg 697 (by decide +kernel) (by decide +kernel)
theorem tw698 : (Jvm.Cond.selects "PlanBranches" ({ cls := "PlanBranches", name := "update", desc := "(I)I" } : Jvm.MethodName) ({ cls := "PlanBranches", name := "update", desc := "(I)I" } : Jvm.MethodName)) ∈ tbG := tbg 698 (by decide +kernel) (by decide +kernel)
theorem tw699 : (Jvm.Cond.code ({ cls := "PlanBranches", name := "update", desc := "(I)I" } : Jvm.MethodName) prog_1_method_20_code (5 : Nat) (Option.some Jvm.ClassFile.FieldType.int)) ∈ tbG := tbg 699 (by decide +kernel) (by decide +kernel)
theorem tw701 : (Jvm.Cond.methodLink "PlanBranchesLaw" (186 : Nat) ({ cls := "PlanBranchesLaw", name := "give", desc := "(LPlanBranches;II[J)I" } : Jvm.MethodName)) ∈ tbG := tbg 701 (by decide +kernel) (by decide +kernel)
theorem tw702 : (Jvm.Cond.static ({ cls := "PlanBranchesLaw", name := "give", desc := "(LPlanBranches;II[J)I" } : Jvm.MethodName)) ∈ tbG := tbg 702 (by decide +kernel) (by decide +kernel)
theorem tw703 : (Jvm.Cond.codeWith ({ cls := "PlanBranchesLaw", name := "give", desc := "(LPlanBranches;II[J)I" } : Jvm.MethodName) method_21_code (5 : Nat) (Option.some Jvm.ClassFile.FieldType.int) [((0 : Nat), (10 : Nat), (13 : Nat), (13 : Nat)), ((0 : Nat), (10 : Nat), (17 : Nat), (15 : Nat))]) ∈ tbG := tbg 703 (by decide +kernel) (by decide +kernel)
theorem tw704 : (Jvm.Cond.methodLink "PlanBranchesLaw" (75 : Nat) ({ cls := "PlanBranches", name := "give", desc := "(II)I" } : Jvm.MethodName)) ∈ tbG := tbg 704 (by decide +kernel) (by decide +kernel)
theorem tw705 : (Jvm.Cond.instanceMethod ({ cls := "PlanBranches", name := "give", desc := "(II)I" } : Jvm.MethodName)) ∈ tbG := tbg 705 (by decide +kernel) (by decide +kernel)
theorem tw706 : (Jvm.Cond.selects "PlanBranches" ({ cls := "PlanBranches", name := "give", desc := "(II)I" } : Jvm.MethodName) ({ cls := "PlanBranches", name := "give", desc := "(II)I" } : Jvm.MethodName)) ∈ tbG := tbg 706 (by decide +kernel) (by decide +kernel)
theorem tw707 : (Jvm.Cond.code ({ cls := "PlanBranches", name := "give", desc := "(II)I" } : Jvm.MethodName) prog_1_method_21_code (4 : Nat) (Option.some Jvm.ClassFile.FieldType.int)) ∈ tbG := tbg 707 (by decide +kernel) (by decide +kernel)
theorem tw708 : (Jvm.Cond.methodLink "PlanBranchesLaw" (189 : Nat) ({ cls := "PlanBranchesLaw", name := "lend", desc := "(LPlanBranches;IIII[J)I" } : Jvm.MethodName)) ∈ tbG := tbg 708 (by decide +kernel) (by decide +kernel)
theorem tw709 : (Jvm.Cond.static ({ cls := "PlanBranchesLaw", name := "lend", desc := "(LPlanBranches;IIII[J)I" } : Jvm.MethodName)) ∈ tbG := tbg 709 (by decide +kernel) (by decide +kernel)
theorem tw710 : (Jvm.Cond.codeWith ({ cls := "PlanBranchesLaw", name := "lend", desc := "(LPlanBranches;IIII[J)I" } : Jvm.MethodName) method_22_code (7 : Nat) (Option.some Jvm.ClassFile.FieldType.int) [((0 : Nat), (14 : Nat), (17 : Nat), (13 : Nat)), ((0 : Nat), (14 : Nat), (21 : Nat), (15 : Nat)), ((0 : Nat), (14 : Nat), (25 : Nat), (21 : Nat))]) ∈ tbG := tbg 710 (by decide +kernel) (by decide +kernel)
theorem tw711 : (Jvm.Cond.methodLink "PlanBranchesLaw" (78 : Nat) ({ cls := "PlanBranches", name := "lend", desc := "(IIII)I" } : Jvm.MethodName)) ∈ tbG := tbg 711 (by decide +kernel) (by decide +kernel)
theorem tw712 : (Jvm.Cond.instanceMethod ({ cls := "PlanBranches", name := "lend", desc := "(IIII)I" } : Jvm.MethodName)) ∈ tbG := tbg 712 (by decide +kernel) (by decide +kernel)
theorem tw713 : (Jvm.Cond.selects "PlanBranches" ({ cls := "PlanBranches", name := "lend", desc := "(IIII)I" } : Jvm.MethodName) ({ cls := "PlanBranches", name := "lend", desc := "(IIII)I" } : Jvm.MethodName)) ∈ tbG := tbg 713 (by decide +kernel) (by decide +kernel)
theorem tw714 : (Jvm.Cond.code ({ cls := "PlanBranches", name := "lend", desc := "(IIII)I" } : Jvm.MethodName) prog_1_method_22_code (5 : Nat) (Option.some Jvm.ClassFile.FieldType.int)) ∈ tbG := tbg 714 (by decide +kernel) (by decide +kernel)
theorem tw716 : (Jvm.Cond.methodLink "PlanBranches" (211 : Nat) ({ cls := "PlanBranches$Crews", name := "lendOut", desc := "(IIII)V" } : Jvm.MethodName)) ∈ tbG := tbg 716 (by decide +kernel) (by decide +kernel)
theorem tw717 : (Jvm.Cond.instanceMethod ({ cls := "PlanBranches$Crews", name := "lendOut", desc := "(IIII)V" } : Jvm.MethodName)) ∈ tbG := tbg 717 (by decide +kernel) (by decide +kernel)
theorem tw718 : (Jvm.Cond.selects "PlanBranches$Crews" ({ cls := "PlanBranches$Crews", name := "lendOut", desc := "(IIII)V" } : Jvm.MethodName) ({ cls := "PlanBranches$Crews", name := "lendOut", desc := "(IIII)V" } : Jvm.MethodName)) ∈ tbG := tbg 718 (by decide +kernel) (by decide +kernel)
theorem tw719 : (Jvm.Cond.code ({ cls := "PlanBranches$Crews", name := "lendOut", desc := "(IIII)V" } : Jvm.MethodName) prog_3_method_2_code (6 : Nat) (Option.none : Option Jvm.ClassFile.FieldType)) ∈ tbG := tbg 719 (by decide +kernel) (by decide +kernel)
theorem tw720 : (Jvm.Cond.methodLink "PlanBranchesLaw" (193 : Nat) ({ cls := "PlanBranchesLaw", name := "holder", desc := "(LPlanBranches;II[J)I" } : Jvm.MethodName)) ∈ tbG := tbg 720 (by decide +kernel) (by decide +kernel)
theorem tw721 : (Jvm.Cond.static ({ cls := "PlanBranchesLaw", name := "holder", desc := "(LPlanBranches;II[J)I" } : Jvm.MethodName)) ∈ tbG := tbg 721 (by decide +kernel) (by decide +kernel)
theorem tw722 : (Jvm.Cond.codeWith ({ cls := "PlanBranchesLaw", name := "holder", desc := "(LPlanBranches;II[J)I" } : Jvm.MethodName) method_23_code (5 : Nat) (Option.some Jvm.ClassFile.FieldType.int) [((0 : Nat), (10 : Nat), (13 : Nat), (15 : Nat))]) ∈ tbG := tbg 722 (by decide +kernel) (by decide +kernel)
theorem tw723 : (Jvm.Cond.methodLink "PlanBranchesLaw" (82 : Nat) ({ cls := "PlanBranches", name := "holder", desc := "(II)I" } : Jvm.MethodName)) ∈ tbG := tbg 723 (by decide +kernel) (by decide +kernel)
theorem tw724 : (Jvm.Cond.instanceMethod ({ cls := "PlanBranches", name := "holder", desc := "(II)I" } : Jvm.MethodName)) ∈ tbG := tbg 724 (by decide +kernel) (by decide +kernel)
theorem tw725 : (Jvm.Cond.selects "PlanBranches" ({ cls := "PlanBranches", name := "holder", desc := "(II)I" } : Jvm.MethodName) ({ cls := "PlanBranches", name := "holder", desc := "(II)I" } : Jvm.MethodName)) ∈ tbG := tbg 725 (by decide +kernel) (by decide +kernel)
theorem tw726 : (Jvm.Cond.code ({ cls := "PlanBranches", name := "holder", desc := "(II)I" } : Jvm.MethodName) prog_1_method_23_code (3 : Nat) (Option.some Jvm.ClassFile.FieldType.int)) ∈ tbG := tbg 726 (by decide +kernel) (by decide +kernel)
theorem tw727 : (Jvm.Cond.methodLink "PlanBranches" (215 : Nat) ({ cls := "PlanBranches$Crews", name := "heldBy", desc := "(II)I" } : Jvm.MethodName)) ∈ tbG := tbg 727 (by decide +kernel) (by decide +kernel)
theorem tw728 : (Jvm.Cond.methodLink "PlanBranchesLaw" (196 : Nat) ({ cls := "PlanBranchesLaw", name := "tail", desc := "(LPlanBranches;II[J)I" } : Jvm.MethodName)) ∈ tbG := tbg 728 (by decide +kernel) (by decide +kernel)
theorem tw729 : (Jvm.Cond.static ({ cls := "PlanBranchesLaw", name := "tail", desc := "(LPlanBranches;II[J)I" } : Jvm.MethodName)) ∈ tbG := tbg 729 (by decide +kernel) (by decide +kernel)
theorem tw730 : (Jvm.Cond.codeWith ({ cls := "PlanBranchesLaw", name := "tail", desc := "(LPlanBranches;II[J)I" } : Jvm.MethodName) method_24_code (5 : Nat) (Option.some Jvm.ClassFile.FieldType.int) [((0 : Nat), (10 : Nat), (13 : Nat), (13 : Nat)), ((0 : Nat), (10 : Nat), (17 : Nat), (15 : Nat))]) ∈ tbG := tbg 730 (by decide +kernel) (by decide +kernel)
theorem tw731 : (Jvm.Cond.methodLink "PlanBranchesLaw" (85 : Nat) ({ cls := "PlanBranches", name := "tail", desc := "(II)I" } : Jvm.MethodName)) ∈ tbG := tbg 731 (by decide +kernel) (by decide +kernel)
theorem tw732 : (Jvm.Cond.instanceMethod ({ cls := "PlanBranches", name := "tail", desc := "(II)I" } : Jvm.MethodName)) ∈ tbG := tbg 732 (by decide +kernel) (by decide +kernel)
theorem tw733 : (Jvm.Cond.selects "PlanBranches" ({ cls := "PlanBranches", name := "tail", desc := "(II)I" } : Jvm.MethodName) ({ cls := "PlanBranches", name := "tail", desc := "(II)I" } : Jvm.MethodName)) ∈ tbG := tbg 733 (by decide +kernel) (by decide +kernel)
theorem tw734 : (Jvm.Cond.code ({ cls := "PlanBranches", name := "tail", desc := "(II)I" } : Jvm.MethodName) prog_1_method_24_code (4 : Nat) (Option.some Jvm.ClassFile.FieldType.int)) ∈ tbG := tbg 734 (by decide +kernel) (by decide +kernel)
theorem tw735 : (Jvm.Cond.methodLink "PlanBranchesLaw" (199 : Nat) ({ cls := "PlanBranchesLaw", name := "slack", desc := "(LPlanBranches;II[J)I" } : Jvm.MethodName)) ∈ tbG := tbg 735 (by decide +kernel) (by decide +kernel)
theorem tw736 : (Jvm.Cond.static ({ cls := "PlanBranchesLaw", name := "slack", desc := "(LPlanBranches;II[J)I" } : Jvm.MethodName)) ∈ tbG := tbg 736 (by decide +kernel) (by decide +kernel)
theorem tw737 : (Jvm.Cond.codeWith ({ cls := "PlanBranchesLaw", name := "slack", desc := "(LPlanBranches;II[J)I" } : Jvm.MethodName) method_25_code (5 : Nat) (Option.some Jvm.ClassFile.FieldType.int) [((0 : Nat), (10 : Nat), (13 : Nat), (13 : Nat)), ((0 : Nat), (10 : Nat), (17 : Nat), (15 : Nat))]) ∈ tbG := tbg 737 (by decide +kernel) (by decide +kernel)
theorem tw738 : (Jvm.Cond.methodLink "PlanBranchesLaw" (88 : Nat) ({ cls := "PlanBranches", name := "slack", desc := "(II)I" } : Jvm.MethodName)) ∈ tbG := tbg 738 (by decide +kernel) (by decide +kernel)
theorem tw739 : (Jvm.Cond.instanceMethod ({ cls := "PlanBranches", name := "slack", desc := "(II)I" } : Jvm.MethodName)) ∈ tbG := tbg 739 (by decide +kernel) (by decide +kernel)
theorem tw740 : (Jvm.Cond.selects "PlanBranches" ({ cls := "PlanBranches", name := "slack", desc := "(II)I" } : Jvm.MethodName) ({ cls := "PlanBranches", name := "slack", desc := "(II)I" } : Jvm.MethodName)) ∈ tbG := tbg 740 (by decide +kernel) (by decide +kernel)
theorem tw741 : (Jvm.Cond.code ({ cls := "PlanBranches", name := "slack", desc := "(II)I" } : Jvm.MethodName) prog_1_method_25_code (4 : Nat) (Option.some Jvm.ClassFile.FieldType.int)) ∈ tbG := tbg 741 (by decide +kernel) (by decide +kernel)
theorem tw742 : (Jvm.Cond.methodLink "PlanBranches" (225 : Nat) ({ cls := "PlanBranches$Ways", name := "slackOf", desc := "(I)I" } : Jvm.MethodName)) ∈ tbG := tbg 742 (by decide +kernel) (by decide +kernel)
theorem tw743 : (Jvm.Cond.instanceMethod ({ cls := "PlanBranches$Ways", name := "slackOf", desc := "(I)I" } : Jvm.MethodName)) ∈ tbG := tbg 743 (by decide +kernel) (by decide +kernel)
theorem tw744 : (Jvm.Cond.selects "PlanBranches$Ways" ({ cls := "PlanBranches$Ways", name := "slackOf", desc := "(I)I" } : Jvm.MethodName) ({ cls := "PlanBranches$Ways", name := "slackOf", desc := "(I)I" } : Jvm.MethodName)) ∈ tbG := tbg 744 (by decide +kernel) (by decide +kernel)
theorem tw745 : (Jvm.Cond.code ({ cls := "PlanBranches$Ways", name := "slackOf", desc := "(I)I" } : Jvm.MethodName) prog_8_method_4_code (2 : Nat) (Option.some Jvm.ClassFile.FieldType.int)) ∈ tbG := tbg 745 (by decide +kernel) (by decide +kernel)
theorem tw746 : (Jvm.Cond.methodLink "PlanBranchesLaw" (202 : Nat) ({ cls := "PlanBranchesLaw", name := "critical", desc := "(LPlanBranches;I[J)I" } : Jvm.MethodName)) ∈ tbG := tbg 746 (by decide +kernel) (by decide +kernel)
theorem tw747 : (Jvm.Cond.static ({ cls := "PlanBranchesLaw", name := "critical", desc := "(LPlanBranches;I[J)I" } : Jvm.MethodName)) ∈ tbG := tbg 747 (by decide +kernel) (by decide +kernel)
theorem tw748 : (Jvm.Cond.codeWith ({ cls := "PlanBranchesLaw", name := "critical", desc := "(LPlanBranches;I[J)I" } : Jvm.MethodName) method_26_code (4 : Nat) (Option.some Jvm.ClassFile.FieldType.int) [((0 : Nat), (9 : Nat), (12 : Nat), (13 : Nat))]) ∈ tbG := tbg 748 (by decide +kernel) (by decide +kernel)
theorem tw749 : (Jvm.Cond.methodLink "PlanBranchesLaw" (91 : Nat) ({ cls := "PlanBranches", name := "critical", desc := "(I)I" } : Jvm.MethodName)) ∈ tbG := tbg 749 (by decide +kernel) (by decide +kernel)
theorem tw750 : (Jvm.Cond.instanceMethod ({ cls := "PlanBranches", name := "critical", desc := "(I)I" } : Jvm.MethodName)) ∈ tbG := tbg 750 (by decide +kernel) (by decide +kernel)
theorem tw751 : (Jvm.Cond.selects "PlanBranches" ({ cls := "PlanBranches", name := "critical", desc := "(I)I" } : Jvm.MethodName) ({ cls := "PlanBranches", name := "critical", desc := "(I)I" } : Jvm.MethodName)) ∈ tbG := tbg 751 (by decide +kernel) (by decide +kernel)
theorem tw752 : (Jvm.Cond.code ({ cls := "PlanBranches", name := "critical", desc := "(I)I" } : Jvm.MethodName) prog_1_method_26_code (5 : Nat) (Option.some Jvm.ClassFile.FieldType.int)) ∈ tbG := tbg 752 (by decide +kernel) (by decide +kernel)
theorem tw753 : (Jvm.Cond.methodLink "PlanBranchesLaw" (205 : Nat) ({ cls := "PlanBranchesLaw", name := "way", desc := "(LPlanBranches;I[J)I" } : Jvm.MethodName)) ∈ tbG := tbg 753 (by decide +kernel) (by decide +kernel)
theorem tw754 : (Jvm.Cond.static ({ cls := "PlanBranchesLaw", name := "way", desc := "(LPlanBranches;I[J)I" } : Jvm.MethodName)) ∈ tbG := tbg 754 (by decide +kernel) (by decide +kernel)
theorem tw755 : (Jvm.Cond.codeWith ({ cls := "PlanBranchesLaw", name := "way", desc := "(LPlanBranches;I[J)I" } : Jvm.MethodName) method_27_code (4 : Nat) (Option.some Jvm.ClassFile.FieldType.int) [((0 : Nat), (9 : Nat), (12 : Nat), (13 : Nat))]) ∈ tbG := tbg 755 (by decide +kernel) (by decide +kernel)
theorem tw756 : (Jvm.Cond.methodLink "PlanBranchesLaw" (94 : Nat) ({ cls := "PlanBranches", name := "way", desc := "(I)I" } : Jvm.MethodName)) ∈ tbG := tbg 756 (by decide +kernel) (by decide +kernel)
theorem tw757 : (Jvm.Cond.instanceMethod ({ cls := "PlanBranches", name := "way", desc := "(I)I" } : Jvm.MethodName)) ∈ tbG := tbg 757 (by decide +kernel) (by decide +kernel)
theorem tw758 : (Jvm.Cond.selects "PlanBranches" ({ cls := "PlanBranches", name := "way", desc := "(I)I" } : Jvm.MethodName) ({ cls := "PlanBranches", name := "way", desc := "(I)I" } : Jvm.MethodName)) ∈ tbG := tbg 758 (by decide +kernel) (by decide +kernel)
theorem tw759 : (Jvm.Cond.code ({ cls := "PlanBranches", name := "way", desc := "(I)I" } : Jvm.MethodName) prog_1_method_27_code (3 : Nat) (Option.some Jvm.ClassFile.FieldType.int)) ∈ tbG := tbg 759 (by decide +kernel) (by decide +kernel)
theorem tw760 : (Jvm.Cond.methodLink "PlanBranchesLaw" (208 : Nat) ({ cls := "PlanBranchesLaw", name := "firstDay", desc := "(LPlanBranches;II[J)I" } : Jvm.MethodName)) ∈ tbG := tbg 760 (by decide +kernel) (by decide +kernel)
theorem tw761 : (Jvm.Cond.static ({ cls := "PlanBranchesLaw", name := "firstDay", desc := "(LPlanBranches;II[J)I" } : Jvm.MethodName)) ∈ tbG := tbg 761 (by decide +kernel) (by decide +kernel)
theorem tw762 : (Jvm.Cond.codeWith ({ cls := "PlanBranchesLaw", name := "firstDay", desc := "(LPlanBranches;II[J)I" } : Jvm.MethodName) method_28_code (5 : Nat) (Option.some Jvm.ClassFile.FieldType.int) [((0 : Nat), (10 : Nat), (13 : Nat), (13 : Nat)), ((0 : Nat), (10 : Nat), (17 : Nat), (15 : Nat))]) ∈ tbG := tbg 762 (by decide +kernel) (by decide +kernel)
theorem tw763 : (Jvm.Cond.methodLink "PlanBranchesLaw" (97 : Nat) ({ cls := "PlanBranches", name := "firstDay", desc := "(II)I" } : Jvm.MethodName)) ∈ tbG := tbg 763 (by decide +kernel) (by decide +kernel)
theorem tw764 : (Jvm.Cond.instanceMethod ({ cls := "PlanBranches", name := "firstDay", desc := "(II)I" } : Jvm.MethodName)) ∈ tbG := tbg 764 (by decide +kernel) (by decide +kernel)
theorem tw765 : (Jvm.Cond.selects "PlanBranches" ({ cls := "PlanBranches", name := "firstDay", desc := "(II)I" } : Jvm.MethodName) ({ cls := "PlanBranches", name := "firstDay", desc := "(II)I" } : Jvm.MethodName)) ∈ tbG := tbg 765 (by decide +kernel) (by decide +kernel)
theorem tw766 : (Jvm.Cond.code ({ cls := "PlanBranches", name := "firstDay", desc := "(II)I" } : Jvm.MethodName) prog_1_method_28_code (4 : Nat) (Option.some Jvm.ClassFile.FieldType.int)) ∈ tbG := tbg 766 (by decide +kernel) (by decide +kernel)
theorem tw767 : (Jvm.Cond.methodLink "PlanBranchesLaw" (211 : Nat) ({ cls := "PlanBranchesLaw", name := "leftOut", desc := "(LPlanBranches;I[J)I" } : Jvm.MethodName)) ∈ tbG := tbg 767 (by decide +kernel) (by decide +kernel)
theorem tw768 : (Jvm.Cond.static ({ cls := "PlanBranchesLaw", name := "leftOut", desc := "(LPlanBranches;I[J)I" } : Jvm.MethodName)) ∈ tbG := tbg 768 (by decide +kernel) (by decide +kernel)
theorem tw769 : (Jvm.Cond.codeWith ({ cls := "PlanBranchesLaw", name := "leftOut", desc := "(LPlanBranches;I[J)I" } : Jvm.MethodName) method_29_code (4 : Nat) (Option.some Jvm.ClassFile.FieldType.int) [((0 : Nat), (9 : Nat), (12 : Nat), (13 : Nat))]) ∈ tbG := tbg 769 (by decide +kernel) (by decide +kernel)
theorem tw770 : (Jvm.Cond.methodLink "PlanBranchesLaw" (100 : Nat) ({ cls := "PlanBranches", name := "leftOut", desc := "(I)I" } : Jvm.MethodName)) ∈ tbG := tbg 770 (by decide +kernel) (by decide +kernel)
theorem tw771 : (Jvm.Cond.instanceMethod ({ cls := "PlanBranches", name := "leftOut", desc := "(I)I" } : Jvm.MethodName)) ∈ tbG := tbg 771 (by decide +kernel) (by decide +kernel)
theorem tw772 : (Jvm.Cond.selects "PlanBranches" ({ cls := "PlanBranches", name := "leftOut", desc := "(I)I" } : Jvm.MethodName) ({ cls := "PlanBranches", name := "leftOut", desc := "(I)I" } : Jvm.MethodName)) ∈ tbG := tbg 772 (by decide +kernel) (by decide +kernel)
theorem tw773 : (Jvm.Cond.code ({ cls := "PlanBranches", name := "leftOut", desc := "(I)I" } : Jvm.MethodName) prog_1_method_29_code (3 : Nat) (Option.some Jvm.ClassFile.FieldType.int)) ∈ tbG := tbg 773 (by decide +kernel) (by decide +kernel)
theorem tw774 : (Jvm.Cond.methodLink "PlanBranchesLaw" (214 : Nat) ({ cls := "PlanBranchesLaw", name := "lastDay", desc := "(LPlanBranches;I[J)I" } : Jvm.MethodName)) ∈ tbG := tbg 774 (by decide +kernel) (by decide +kernel)
theorem tw775 : (Jvm.Cond.static ({ cls := "PlanBranchesLaw", name := "lastDay", desc := "(LPlanBranches;I[J)I" } : Jvm.MethodName)) ∈ tbG := tbg 775 (by decide +kernel) (by decide +kernel)
theorem tw776 : (Jvm.Cond.codeWith ({ cls := "PlanBranchesLaw", name := "lastDay", desc := "(LPlanBranches;I[J)I" } : Jvm.MethodName) method_30_code (4 : Nat) (Option.some Jvm.ClassFile.FieldType.int) [((0 : Nat), (9 : Nat), (12 : Nat), (13 : Nat))]) ∈ tbG := tbg 776 (by decide +kernel) (by decide +kernel)
theorem tw777 : (Jvm.Cond.methodLink "PlanBranchesLaw" (103 : Nat) ({ cls := "PlanBranches", name := "lastDay", desc := "(I)I" } : Jvm.MethodName)) ∈ tbG := tbg 777 (by decide +kernel) (by decide +kernel)
theorem tw778 : (Jvm.Cond.instanceMethod ({ cls := "PlanBranches", name := "lastDay", desc := "(I)I" } : Jvm.MethodName)) ∈ tbG := tbg 778 (by decide +kernel) (by decide +kernel)
theorem tw779 : (Jvm.Cond.selects "PlanBranches" ({ cls := "PlanBranches", name := "lastDay", desc := "(I)I" } : Jvm.MethodName) ({ cls := "PlanBranches", name := "lastDay", desc := "(I)I" } : Jvm.MethodName)) ∈ tbG := tbg 779 (by decide +kernel) (by decide +kernel)
theorem tw780 : (Jvm.Cond.code ({ cls := "PlanBranches", name := "lastDay", desc := "(I)I" } : Jvm.MethodName) prog_1_method_30_code (3 : Nat) (Option.some Jvm.ClassFile.FieldType.int)) ∈ tbG := tbg 780 (by decide +kernel) (by decide +kernel)
theorem tw781 : (Jvm.Cond.methodLink "PlanBranches" (241 : Nat) ({ cls := "PlanBranches$Schedule", name := "endOf", desc := "(LPlanBranches$Plan;)I" } : Jvm.MethodName)) ∈ tbG := tbg 781 (by decide +kernel) (by decide +kernel)
theorem tw782 : (Jvm.Cond.instanceMethod ({ cls := "PlanBranches$Schedule", name := "endOf", desc := "(LPlanBranches$Plan;)I" } : Jvm.MethodName)) ∈ tbG := tbg 782 (by decide +kernel) (by decide +kernel)
theorem tw783 : (Jvm.Cond.selects "PlanBranches$Schedule" ({ cls := "PlanBranches$Schedule", name := "endOf", desc := "(LPlanBranches$Plan;)I" } : Jvm.MethodName) ({ cls := "PlanBranches$Schedule", name := "endOf", desc := "(LPlanBranches$Plan;)I" } : Jvm.MethodName)) ∈ tbG := tbg 783 (by decide +kernel) (by decide +kernel)
theorem tw784 : (Jvm.Cond.code ({ cls := "PlanBranches$Schedule", name := "endOf", desc := "(LPlanBranches$Plan;)I" } : Jvm.MethodName) prog_7_method_13_code (4 : Nat) (Option.some Jvm.ClassFile.FieldType.int)) ∈ tbG := tbg 784 (by decide +kernel) (by decide +kernel)
theorem tw785 : (Jvm.Cond.methodLink "PlanBranchesLaw" (217 : Nat) ({ cls := "PlanBranchesLaw", name := "lastDayByAll", desc := "(LPlanBranches;I[J)I" } : Jvm.MethodName)) ∈ tbG := tbg 785 (by decide +kernel) (by decide +kernel)
theorem tw786 : (Jvm.Cond.static ({ cls := "PlanBranchesLaw", name := "lastDayByAll", desc := "(LPlanBranches;I[J)I" } : Jvm.MethodName)) ∈ tbG := tbg 786 (by decide +kernel) (by decide +kernel)
theorem tw787 : (Jvm.Cond.codeWith ({ cls := "PlanBranchesLaw", name := "lastDayByAll", desc := "(LPlanBranches;I[J)I" } : Jvm.MethodName) method_31_code (4 : Nat) (Option.some Jvm.ClassFile.FieldType.int) [((0 : Nat), (9 : Nat), (12 : Nat), (13 : Nat)), ((0 : Nat), (9 : Nat), (15 : Nat), (21 : Nat))]) ∈ tbG := tbg 787 (by decide +kernel) (by decide +kernel)
theorem tw788 : (Jvm.Cond.methodLink "PlanBranchesLaw" (106 : Nat) ({ cls := "PlanBranches", name := "lastDayByAll", desc := "(I)I" } : Jvm.MethodName)) ∈ tbG := tbg 788 (by decide +kernel) (by decide +kernel)
theorem tw789 : (Jvm.Cond.instanceMethod ({ cls := "PlanBranches", name := "lastDayByAll", desc := "(I)I" } : Jvm.MethodName)) ∈ tbG := tbg 789 (by decide +kernel) (by decide +kernel)
theorem tw790 : (Jvm.Cond.selects "PlanBranches" ({ cls := "PlanBranches", name := "lastDayByAll", desc := "(I)I" } : Jvm.MethodName) ({ cls := "PlanBranches", name := "lastDayByAll", desc := "(I)I" } : Jvm.MethodName)) ∈ tbG := tbg 790 (by decide +kernel) (by decide +kernel)
theorem tw791 : (Jvm.Cond.code ({ cls := "PlanBranches", name := "lastDayByAll", desc := "(I)I" } : Jvm.MethodName) prog_1_method_31_code (3 : Nat) (Option.some Jvm.ClassFile.FieldType.int)) ∈ tbG := tbg 791 (by decide +kernel) (by decide +kernel)
theorem tw792 : (Jvm.Cond.methodLink "PlanBranches" (244 : Nat) ({ cls := "java/lang/Integer", name := "bitCount", desc := "(I)I" } : Jvm.MethodName)) ∈ tbG := tbg 792 (by decide +kernel) (by decide +kernel)
theorem tw793 : (Jvm.Cond.static ({ cls := "java/lang/Integer", name := "bitCount", desc := "(I)I" } : Jvm.MethodName)) ∈ tbG := tbg 793 (by decide +kernel) (by decide +kernel)
theorem tw794 : (Jvm.Cond.code ({ cls := "java/lang/Integer", name := "bitCount", desc := "(I)I" } : Jvm.MethodName) prog_15_method_49_code (1 : Nat) (Option.some Jvm.ClassFile.FieldType.int)) ∈ tbG := tbg 794 (by decide +kernel) (by decide +kernel)
theorem tw795 : (Jvm.Cond.constant "java/lang/Integer" (265 : Nat) (1431655765 : Int32)) ∈ tbG := tbg 795 (by decide +kernel) (by decide +kernel)
theorem tw796 : (Jvm.Cond.constant "java/lang/Integer" (266 : Nat) (858993459 : Int32)) ∈ tbG := tbg 796 (by decide +kernel) (by decide +kernel)
theorem tw797 : (Jvm.Cond.constant "java/lang/Integer" (267 : Nat) (252645135 : Int32)) ∈ tbG := tbg 797 (by decide +kernel) (by decide +kernel)
theorem tw799 : (Jvm.Cond.methodLink "PlanBranches" (255 : Nat) ({ cls := "PlanBranches$Schedule", name := "endByAll", desc := "(LPlanBranches$Plan;)I" } : Jvm.MethodName)) ∈ tbG := tbg 799 (by decide +kernel) (by decide +kernel)
theorem tw800 : (Jvm.Cond.instanceMethod ({ cls := "PlanBranches$Schedule", name := "endByAll", desc := "(LPlanBranches$Plan;)I" } : Jvm.MethodName)) ∈ tbG := tbg 800 (by decide +kernel) (by decide +kernel)
theorem tw801 : (Jvm.Cond.selects "PlanBranches$Schedule" ({ cls := "PlanBranches$Schedule", name := "endByAll", desc := "(LPlanBranches$Plan;)I" } : Jvm.MethodName) ({ cls := "PlanBranches$Schedule", name := "endByAll", desc := "(LPlanBranches$Plan;)I" } : Jvm.MethodName)) ∈ tbG := tbg 801 (by decide +kernel) (by decide +kernel)
theorem tw802 : (Jvm.Cond.code ({ cls := "PlanBranches$Schedule", name := "endByAll", desc := "(LPlanBranches$Plan;)I" } : Jvm.MethodName) prog_7_method_5_code (3 : Nat) (Option.some Jvm.ClassFile.FieldType.int)) ∈ tbG := tbg 802 (by decide +kernel) (by decide +kernel)
theorem tw803 : (Jvm.Cond.methodLink "PlanBranches$Schedule" (58 : Nat) ({ cls := "PlanBranches$Schedule", name := "endByOrders", desc := "(LPlanBranches$Schedule;LPlanBranches$Plan;IIII)I" } : Jvm.MethodName)) ∈ tbG := tbg 803 (by decide +kernel) (by decide +kernel)
theorem tw804 : (Jvm.Cond.static ({ cls := "PlanBranches$Schedule", name := "endByOrders", desc := "(LPlanBranches$Schedule;LPlanBranches$Plan;IIII)I" } : Jvm.MethodName)) ∈ tbG := tbg 804 (by decide +kernel) (by decide +kernel)
theorem tw805 : (Jvm.Cond.code ({ cls := "PlanBranches$Schedule", name := "endByOrders", desc := "(LPlanBranches$Schedule;LPlanBranches$Plan;IIII)I" } : Jvm.MethodName) prog_7_method_6_code (10 : Nat) (Option.some Jvm.ClassFile.FieldType.int)) ∈ tbG := tbg 805 (by decide +kernel) (by decide +kernel)
theorem tw806 : (Jvm.Cond.methodLink "PlanBranches$Schedule" (70 : Nat) ({ cls := "PlanBranches$Schedule", name := "takeBack", desc := "(LPlanBranches$Plan;II)V" } : Jvm.MethodName)) ∈ tbG := tbg 806 (by decide +kernel) (by decide +kernel)
theorem tw808 : (Jvm.Cond.instanceMethod ({ cls := "PlanBranches$Schedule", name := "takeBack", desc := "(LPlanBranches$Plan;II)V" } : Jvm.MethodName)) ∈ tbG := tbg 808 (by decide +kernel) (by decide +kernel)
theorem tw809 : (Jvm.Cond.code ({ cls := "PlanBranches$Schedule", name := "takeBack", desc := "(LPlanBranches$Plan;II)V" } : Jvm.MethodName) prog_7_method_11_code (4 : Nat) (Option.none : Option Jvm.ClassFile.FieldType)) ∈ tbG := tbg 809 (by decide +kernel) (by decide +kernel)
theorem tw810 : (Jvm.Cond.methodLink "PlanBranchesLaw" (220 : Nat) ({ cls := "PlanBranchesLaw", name := "taskOn", desc := "(LPlanBranches;III[J)I" } : Jvm.MethodName)) ∈ tbG := tbg 810 (by decide +kernel) (by decide +kernel)
theorem tw811 : (Jvm.Cond.static ({ cls := "PlanBranchesLaw", name := "taskOn", desc := "(LPlanBranches;III[J)I" } : Jvm.MethodName)) ∈ tbG := tbg 811 (by decide +kernel) (by decide +kernel)
theorem tw812 : (Jvm.Cond.codeWith ({ cls := "PlanBranchesLaw", name := "taskOn", desc := "(LPlanBranches;III[J)I" } : Jvm.MethodName) method_32_code (6 : Nat) (Option.some Jvm.ClassFile.FieldType.int) [((0 : Nat), (12 : Nat), (15 : Nat), (13 : Nat)), ((0 : Nat), (12 : Nat), (19 : Nat), (15 : Nat))]) ∈ tbG := tbg 812 (by decide +kernel) (by decide +kernel)
theorem tw813 : (Jvm.Cond.methodLink "PlanBranchesLaw" (109 : Nat) ({ cls := "PlanBranches", name := "taskOn", desc := "(III)I" } : Jvm.MethodName)) ∈ tbG := tbg 813 (by decide +kernel) (by decide +kernel)
theorem tw814 : (Jvm.Cond.instanceMethod ({ cls := "PlanBranches", name := "taskOn", desc := "(III)I" } : Jvm.MethodName)) ∈ tbG := tbg 814 (by decide +kernel) (by decide +kernel)
theorem tw815 : (Jvm.Cond.selects "PlanBranches" ({ cls := "PlanBranches", name := "taskOn", desc := "(III)I" } : Jvm.MethodName) ({ cls := "PlanBranches", name := "taskOn", desc := "(III)I" } : Jvm.MethodName)) ∈ tbG := tbg 815 (by decide +kernel) (by decide +kernel)
theorem tw816 : (Jvm.Cond.code ({ cls := "PlanBranches", name := "taskOn", desc := "(III)I" } : Jvm.MethodName) prog_1_method_32_code (5 : Nat) (Option.some Jvm.ClassFile.FieldType.int)) ∈ tbG := tbg 816 (by decide +kernel) (by decide +kernel)
theorem tw817 : (Jvm.Cond.methodLink "PlanBranches" (262 : Nat) ({ cls := "java/lang/Math", name := "max", desc := "(II)I" } : Jvm.MethodName)) ∈ tbG := tbg 817 (by decide +kernel) (by decide +kernel)
theorem tw818 : (Jvm.Cond.classLink "PlanBranchesLaw" (113 : Nat) "PlanBranchesModel") ∈ tbG := tbg 818 (by decide +kernel) (by decide +kernel)
theorem tw819 : (Jvm.Cond.instantiable "PlanBranchesModel" (28 : Nat)) ∈ tbG := tbg 819 (by decide +kernel) (by decide +kernel)
theorem tw820 : (Jvm.Cond.methodLink "PlanBranchesLaw" (115 : Nat) ({ cls := "PlanBranchesModel", name := "<init>", desc := "()V" } : Jvm.MethodName)) ∈ tbG := tbg 820 (by decide +kernel) (by decide +kernel)
theorem tw821 : (Jvm.Cond.instanceMethod ({ cls := "PlanBranchesModel", name := "<init>", desc := "()V" } : Jvm.MethodName)) ∈ tbG := tbg 821 (by decide +kernel) (by decide +kernel)
theorem tw822 : (Jvm.Cond.code ({ cls := "PlanBranchesModel", name := "<init>", desc := "()V" } : Jvm.MethodName) prog_10_method_1_code (2 : Nat) (Option.none : Option Jvm.ClassFile.FieldType)) ∈ tbG := tbg 822 (by decide +kernel) (by decide +kernel)
theorem tw823 : (Jvm.Cond.methodLink "PlanBranchesModel" (1 : Nat) ({ cls := "java/lang/Object", name := "<init>", desc := "()V" } : Jvm.MethodName)) ∈ tbG := tbg 823 (by decide +kernel) (by decide +kernel)
theorem tw824 : (Jvm.Cond.constant "PlanBranchesModel" (87 : Nat) (1000000 : Int32)) ∈ tbG := tbg 824 (by decide +kernel) (by decide +kernel)
theorem tw825 : (Jvm.Cond.fieldLink "PlanBranchesModel" (88 : Nat) "PlanBranchesModel" "thrown" "I") ∈ tbG := tbg 825 (by decide +kernel) (by decide +kernel)
theorem tw826 : (Jvm.Cond.fieldLink "PlanBranchesModel" (7 : Nat) "PlanBranchesModel" "length" "[I") ∈ tbG := tbg 826 (by decide +kernel) (by decide +kernel)
theorem tw827 : (Jvm.Cond.fieldLink "PlanBranchesModel" (13 : Nat) "PlanBranchesModel" "crew" "[I") ∈ tbG := tbg 827 (by decide +kernel) (by decide +kernel)
theorem tw828 : (Jvm.Cond.fieldLink "PlanBranchesModel" (16 : Nat) "PlanBranchesModel" "cost" "[I") ∈ tbG := tbg 828 (by decide +kernel) (by decide +kernel)
theorem tw829 : (Jvm.Cond.fieldLink "PlanBranchesModel" (19 : Nat) "PlanBranchesModel" "needs" "[I") ∈ tbG := tbg 829 (by decide +kernel) (by decide +kernel)
theorem tw830 : (Jvm.Cond.fieldLink "PlanBranchesModel" (22 : Nat) "PlanBranchesModel" "parent" "[I") ∈ tbG := tbg 830 (by decide +kernel) (by decide +kernel)
theorem tw831 : (Jvm.Cond.fieldLink "PlanBranchesModel" (25 : Nat) "PlanBranchesModel" "budget" "[I") ∈ tbG := tbg 831 (by decide +kernel) (by decide +kernel)
theorem tw832 : (Jvm.Cond.fieldLink "PlanBranchesModel" (28 : Nat) "PlanBranchesModel" "resolved" "[I") ∈ tbG := tbg 832 (by decide +kernel) (by decide +kernel)
theorem tw833 : (Jvm.Cond.fieldLink "PlanBranchesModel" (31 : Nat) "PlanBranchesModel" "branches" "I") ∈ tbG := tbg 833 (by decide +kernel) (by decide +kernel)
theorem tw834 : (Jvm.Cond.fieldLink "PlanBranchesModel" (35 : Nat) "PlanBranchesModel" "task" "[I") ∈ tbG := tbg 834 (by decide +kernel) (by decide +kernel)
theorem tw835 : (Jvm.Cond.fieldLink "PlanBranchesModel" (38 : Nat) "PlanBranchesModel" "lengthThen" "[I") ∈ tbG := tbg 835 (by decide +kernel) (by decide +kernel)
theorem tw836 : (Jvm.Cond.fieldLink "PlanBranchesModel" (41 : Nat) "PlanBranchesModel" "crewThen" "[I") ∈ tbG := tbg 836 (by decide +kernel) (by decide +kernel)
theorem tw837 : (Jvm.Cond.fieldLink "PlanBranchesModel" (44 : Nat) "PlanBranchesModel" "costThen" "[I") ∈ tbG := tbg 837 (by decide +kernel) (by decide +kernel)
theorem tw838 : (Jvm.Cond.fieldLink "PlanBranchesModel" (47 : Nat) "PlanBranchesModel" "needsThen" "[I") ∈ tbG := tbg 838 (by decide +kernel) (by decide +kernel)
theorem tw839 : (Jvm.Cond.fieldLink "PlanBranchesModel" (50 : Nat) "PlanBranchesModel" "undos" "[I") ∈ tbG := tbg 839 (by decide +kernel) (by decide +kernel)
theorem tw840 : (Jvm.Cond.fieldLink "PlanBranchesModel" (53 : Nat) "PlanBranchesModel" "owner" "[I") ∈ tbG := tbg 840 (by decide +kernel) (by decide +kernel)
theorem tw841 : (Jvm.Cond.fieldLink "PlanBranchesModel" (56 : Nat) "PlanBranchesModel" "loanCrew" "[I") ∈ tbG := tbg 841 (by decide +kernel) (by decide +kernel)
theorem tw842 : (Jvm.Cond.fieldLink "PlanBranchesModel" (59 : Nat) "PlanBranchesModel" "loanBranch" "[I") ∈ tbG := tbg 842 (by decide +kernel) (by decide +kernel)
theorem tw843 : (Jvm.Cond.fieldLink "PlanBranchesModel" (62 : Nat) "PlanBranchesModel" "loanFrom" "[I") ∈ tbG := tbg 843 (by decide +kernel) (by decide +kernel)
theorem tw844 : (Jvm.Cond.fieldLink "PlanBranchesModel" (65 : Nat) "PlanBranchesModel" "loanTo" "[I") ∈ tbG := tbg 844 (by decide +kernel) (by decide +kernel)
theorem tw845 : (Jvm.Cond.fieldLink "PlanBranchesModel" (203 : Nat) "PlanBranchesModel" "loans" "I") ∈ tbG := tbg 845 (by decide +kernel) (by decide +kernel)
theorem tw846 : (Jvm.Cond.fieldLink "PlanBranchesModel" (68 : Nat) "PlanBranchesModel" "tail" "[I") ∈ tbG := tbg 846 (by decide +kernel) (by decide +kernel)
theorem tw847 : (Jvm.Cond.fieldLink "PlanBranchesModel" (71 : Nat) "PlanBranchesModel" "head" "[I") ∈ tbG := tbg 847 (by decide +kernel) (by decide +kernel)
theorem tw848 : (Jvm.Cond.fieldLink "PlanBranchesModel" (74 : Nat) "PlanBranchesModel" "first" "[I") ∈ tbG := tbg 848 (by decide +kernel) (by decide +kernel)
theorem tw849 : (Jvm.Cond.fieldLink "PlanBranchesModel" (77 : Nat) "PlanBranchesModel" "works" "[I") ∈ tbG := tbg 849 (by decide +kernel) (by decide +kernel)
theorem tw850 : (Jvm.Cond.fieldLink "PlanBranchesModel" (80 : Nat) "PlanBranchesModel" "isHeld" "[Z") ∈ tbG := tbg 850 (by decide +kernel) (by decide +kernel)
theorem tw851 : (Jvm.Cond.fieldLink "PlanBranchesModel" (84 : Nat) "PlanBranchesModel" "order" "[I") ∈ tbG := tbg 851 (by decide +kernel) (by decide +kernel)
theorem tw852 : (Jvm.Cond.fieldLink "PlanBranchesModel" (165 : Nat) "PlanBranchesModel" "clashing" "I") ∈ tbG := tbg 852 (by decide +kernel) (by decide +kernel)
theorem tw853 : (Jvm.Cond.lays "PlanBranchesModel" "PlanBranchesModel" "thrown" "I") ∈ tbG := tbg 853 (by decide +kernel) (by decide +kernel)
theorem tw855 : (Jvm.Cond.laysFinal "PlanBranchesModel" "PlanBranchesModel" "length" "[I") ∈ tbG := tbg 855 (by decide +kernel) (by decide +kernel)
theorem tw857 : (Jvm.Cond.laysFinal "PlanBranchesModel" "PlanBranchesModel" "crew" "[I") ∈ tbG := tbg 857 (by decide +kernel) (by decide +kernel)
theorem tw859 : (Jvm.Cond.laysFinal "PlanBranchesModel" "PlanBranchesModel" "cost" "[I") ∈ tbG := tbg 859 (by decide +kernel) (by decide +kernel)
theorem tw861 : (Jvm.Cond.laysFinal "PlanBranchesModel" "PlanBranchesModel" "needs" "[I") ∈ tbG := tbg 861 (by decide +kernel) (by decide +kernel)
theorem tw863 : (Jvm.Cond.laysFinal "PlanBranchesModel" "PlanBranchesModel" "parent" "[I") ∈ tbG := tbg 863 (by decide +kernel) (by decide +kernel)
theorem tw865 : (Jvm.Cond.laysFinal "PlanBranchesModel" "PlanBranchesModel" "budget" "[I") ∈ tbG := tbg 865 (by decide +kernel) (by decide +kernel)
theorem tw867 : (Jvm.Cond.laysFinal "PlanBranchesModel" "PlanBranchesModel" "resolved" "[I") ∈ tbG := tbg 867 (by decide +kernel) (by decide +kernel)
theorem tw869 : (Jvm.Cond.lays "PlanBranchesModel" "PlanBranchesModel" "branches" "I") ∈ tbG := tbg 869 (by decide +kernel) (by decide +kernel)
theorem tw871 : (Jvm.Cond.laysFinal "PlanBranchesModel" "PlanBranchesModel" "task" "[I") ∈ tbG := tbg 871 (by decide +kernel) (by decide +kernel)
theorem tw873 : (Jvm.Cond.laysFinal "PlanBranchesModel" "PlanBranchesModel" "lengthThen" "[I") ∈ tbG := tbg 873 (by decide +kernel) (by decide +kernel)
theorem tw875 : (Jvm.Cond.laysFinal "PlanBranchesModel" "PlanBranchesModel" "crewThen" "[I") ∈ tbG := tbg 875 (by decide +kernel) (by decide +kernel)
theorem tw877 : (Jvm.Cond.laysFinal "PlanBranchesModel" "PlanBranchesModel" "costThen" "[I") ∈ tbG := tbg 877 (by decide +kernel) (by decide +kernel)
theorem tw879 : (Jvm.Cond.laysFinal "PlanBranchesModel" "PlanBranchesModel" "needsThen" "[I") ∈ tbG := tbg 879 (by decide +kernel) (by decide +kernel)
theorem tw881 : (Jvm.Cond.laysFinal "PlanBranchesModel" "PlanBranchesModel" "undos" "[I") ∈ tbG := tbg 881 (by decide +kernel) (by decide +kernel)
theorem tw883 : (Jvm.Cond.laysFinal "PlanBranchesModel" "PlanBranchesModel" "owner" "[I") ∈ tbG := tbg 883 (by decide +kernel) (by decide +kernel)
theorem tw885 : (Jvm.Cond.laysFinal "PlanBranchesModel" "PlanBranchesModel" "loanCrew" "[I") ∈ tbG := tbg 885 (by decide +kernel) (by decide +kernel)
theorem tw887 : (Jvm.Cond.laysFinal "PlanBranchesModel" "PlanBranchesModel" "loanBranch" "[I") ∈ tbG := tbg 887 (by decide +kernel) (by decide +kernel)
theorem tw889 : (Jvm.Cond.laysFinal "PlanBranchesModel" "PlanBranchesModel" "loanFrom" "[I") ∈ tbG := tbg 889 (by decide +kernel) (by decide +kernel)
theorem tw891 : (Jvm.Cond.laysFinal "PlanBranchesModel" "PlanBranchesModel" "loanTo" "[I") ∈ tbG := tbg 891 (by decide +kernel) (by decide +kernel)
theorem tw893 : (Jvm.Cond.lays "PlanBranchesModel" "PlanBranchesModel" "loans" "I") ∈ tbG := tbg 893 (by decide +kernel) (by decide +kernel)
theorem tw895 : (Jvm.Cond.laysFinal "PlanBranchesModel" "PlanBranchesModel" "tail" "[I") ∈ tbG := tbg 895 (by decide +kernel) (by decide +kernel)
theorem tw897 : (Jvm.Cond.laysFinal "PlanBranchesModel" "PlanBranchesModel" "head" "[I") ∈ tbG := tbg 897 (by decide +kernel) (by decide +kernel)
theorem tw899 : (Jvm.Cond.laysFinal "PlanBranchesModel" "PlanBranchesModel" "first" "[I") ∈ tbG := tbg 899 (by decide +kernel) (by decide +kernel)
theorem tw901 : (Jvm.Cond.laysFinal "PlanBranchesModel" "PlanBranchesModel" "works" "[I") ∈ tbG := tbg 901 (by decide +kernel) (by decide +kernel)
theorem tw903 : (Jvm.Cond.laysFinal "PlanBranchesModel" "PlanBranchesModel" "isHeld" "[Z") ∈ tbG := tbg 903 (by decide +kernel) (by decide +kernel)
theorem tw905 : (Jvm.Cond.laysFinal "PlanBranchesModel" "PlanBranchesModel" "order" "[I") ∈ tbG := tbg 905 (by decide +kernel) (by decide +kernel)
theorem tw907 : (Jvm.Cond.lays "PlanBranchesModel" "PlanBranchesModel" "clashing" "I") ∈ tbG := tbg 907 (by decide +kernel) (by decide +kernel)
theorem tw910 : (Jvm.Cond.arrayClass Jvm.ClassFile.FieldType.boolean) ∈ tbG := tbg 910 (by decide +kernel) (by decide +kernel)
theorem tw911 : (Jvm.Cond.methodLink "PlanBranchesLaw" (122 : Nat) ({ cls := "PlanBranchesModel", name := "thrown", desc := "()I" } : Jvm.MethodName)) ∈ tbG := tbg 911 (by decide +kernel) (by decide +kernel)
theorem tw912 : (Jvm.Cond.instanceMethod ({ cls := "PlanBranchesModel", name := "thrown", desc := "()I" } : Jvm.MethodName)) ∈ tbG := tbg 912 (by decide +kernel) (by decide +kernel)
theorem tw913 : (Jvm.Cond.selects "PlanBranchesModel" ({ cls := "PlanBranchesModel", name := "thrown", desc := "()I" } : Jvm.MethodName) ({ cls := "PlanBranchesModel", name := "thrown", desc := "()I" } : Jvm.MethodName)) ∈ tbG := tbg 913 (by decide +kernel) (by decide +kernel)
theorem tw914 : (Jvm.Cond.code ({ cls := "PlanBranchesModel", name := "thrown", desc := "()I" } : Jvm.MethodName) prog_10_method_2_code (1 : Nat) (Option.some Jvm.ClassFile.FieldType.int)) ∈ tbG := tbg 914 (by decide +kernel) (by decide +kernel)
theorem tw915 : (Jvm.Cond.methodLink "PlanBranchesLaw" (121 : Nat) ({ cls := "PlanBranchesModel", name := "setTask", desc := "(IIIII)Z" } : Jvm.MethodName)) ∈ tbG := tbg 915 (by decide +kernel) (by decide +kernel)
theorem tw916 : (Jvm.Cond.instanceMethod ({ cls := "PlanBranchesModel", name := "setTask", desc := "(IIIII)Z" } : Jvm.MethodName)) ∈ tbG := tbg 916 (by decide +kernel) (by decide +kernel)
theorem tw917 : (Jvm.Cond.selects "PlanBranchesModel" ({ cls := "PlanBranchesModel", name := "setTask", desc := "(IIIII)Z" } : Jvm.MethodName) ({ cls := "PlanBranchesModel", name := "setTask", desc := "(IIIII)Z" } : Jvm.MethodName)) ∈ tbG := tbg 917 (by decide +kernel) (by decide +kernel)
theorem tw918 : (Jvm.Cond.code ({ cls := "PlanBranchesModel", name := "setTask", desc := "(IIIII)Z" } : Jvm.MethodName) prog_10_method_14_code (8 : Nat) (Option.some Jvm.ClassFile.FieldType.boolean)) ∈ tbG := tbg 918 (by decide +kernel) (by decide +kernel)
theorem tw919 : (Jvm.Cond.methodLink "PlanBranchesModel" (107 : Nat) ({ cls := "PlanBranchesModel", name := "isTask", desc := "(I)Z" } : Jvm.MethodName)) ∈ tbG := tbg 919 (by decide +kernel) (by decide +kernel)
theorem tw920 : (Jvm.Cond.static ({ cls := "PlanBranchesModel", name := "isTask", desc := "(I)Z" } : Jvm.MethodName)) ∈ tbG := tbg 920 (by decide +kernel) (by decide +kernel)
theorem tw921 : (Jvm.Cond.code ({ cls := "PlanBranchesModel", name := "isTask", desc := "(I)Z" } : Jvm.MethodName) prog_10_method_6_code (1 : Nat) (Option.some Jvm.ClassFile.FieldType.boolean)) ∈ tbG := tbg 921 (by decide +kernel) (by decide +kernel)
theorem tw922 : (Jvm.Cond.methodLink "PlanBranchesModel" (91 : Nat) ({ cls := "PlanBranchesModel", name := "isIn", desc := "(III)Z" } : Jvm.MethodName)) ∈ tbG := tbg 922 (by decide +kernel) (by decide +kernel)
theorem tw923 : (Jvm.Cond.static ({ cls := "PlanBranchesModel", name := "isIn", desc := "(III)Z" } : Jvm.MethodName)) ∈ tbG := tbg 923 (by decide +kernel) (by decide +kernel)
theorem tw924 : (Jvm.Cond.code ({ cls := "PlanBranchesModel", name := "isIn", desc := "(III)Z" } : Jvm.MethodName) prog_10_method_4_code (3 : Nat) (Option.some Jvm.ClassFile.FieldType.boolean)) ∈ tbG := tbg 924 (by decide +kernel) (by decide +kernel)
theorem tw925 : (Jvm.Cond.methodLink "PlanBranchesModel" (111 : Nat) ({ cls := "PlanBranchesModel", name := "isBranch", desc := "(I)Z" } : Jvm.MethodName)) ∈ tbG := tbg 925 (by decide +kernel) (by decide +kernel)
theorem tw927 : (Jvm.Cond.instanceMethod ({ cls := "PlanBranchesModel", name := "isBranch", desc := "(I)Z" } : Jvm.MethodName)) ∈ tbG := tbg 927 (by decide +kernel) (by decide +kernel)
theorem tw928 : (Jvm.Cond.code ({ cls := "PlanBranchesModel", name := "isBranch", desc := "(I)Z" } : Jvm.MethodName) prog_10_method_5_code (2 : Nat) (Option.some Jvm.ClassFile.FieldType.boolean)) ∈ tbG := tbg 928 (by decide +kernel) (by decide +kernel)
theorem tw929 : (Jvm.Cond.methodLink "PlanBranchesModel" (114 : Nat) ({ cls := "PlanBranchesModel", name := "isFine", desc := "(I)Z" } : Jvm.MethodName)) ∈ tbG := tbg 929 (by decide +kernel) (by decide +kernel)
theorem tw931 : (Jvm.Cond.instanceMethod ({ cls := "PlanBranchesModel", name := "isFine", desc := "(I)Z" } : Jvm.MethodName)) ∈ tbG := tbg 931 (by decide +kernel) (by decide +kernel)
theorem tw932 : (Jvm.Cond.code ({ cls := "PlanBranchesModel", name := "isFine", desc := "(I)Z" } : Jvm.MethodName) prog_10_method_3_code (2 : Nat) (Option.some Jvm.ClassFile.FieldType.boolean)) ∈ tbG := tbg 932 (by decide +kernel) (by decide +kernel)
theorem tw933 : (Jvm.Cond.methodLink "PlanBranchesModel" (117 : Nat) ({ cls := "PlanBranchesModel", name := "keeps", desc := "(II)V" } : Jvm.MethodName)) ∈ tbG := tbg 933 (by decide +kernel) (by decide +kernel)
theorem tw935 : (Jvm.Cond.instanceMethod ({ cls := "PlanBranchesModel", name := "keeps", desc := "(II)V" } : Jvm.MethodName)) ∈ tbG := tbg 935 (by decide +kernel) (by decide +kernel)
theorem tw936 : (Jvm.Cond.code ({ cls := "PlanBranchesModel", name := "keeps", desc := "(II)V" } : Jvm.MethodName) prog_10_method_10_code (4 : Nat) (Option.none : Option Jvm.ClassFile.FieldType)) ∈ tbG := tbg 936 (by decide +kernel) (by decide +kernel)
theorem tw937 : (Jvm.Cond.methodLink "PlanBranchesModel" (95 : Nat) ({ cls := "PlanBranchesModel", name := "at", desc := "(II)I" } : Jvm.MethodName)) ∈ tbG := tbg 937 (by decide +kernel) (by decide +kernel)
theorem tw938 : (Jvm.Cond.static ({ cls := "PlanBranchesModel", name := "at", desc := "(II)I" } : Jvm.MethodName)) ∈ tbG := tbg 938 (by decide +kernel) (by decide +kernel)
theorem tw939 : (Jvm.Cond.code ({ cls := "PlanBranchesModel", name := "at", desc := "(II)I" } : Jvm.MethodName) prog_10_method_7_code (2 : Nat) (Option.some Jvm.ClassFile.FieldType.int)) ∈ tbG := tbg 939 (by decide +kernel) (by decide +kernel)
theorem tw940 : (Jvm.Cond.methodLink "PlanBranchesModel" (121 : Nat) ({ cls := "PlanBranchesModel", name := "isThere", desc := "(II)Z" } : Jvm.MethodName)) ∈ tbG := tbg 940 (by decide +kernel) (by decide +kernel)
theorem tw942 : (Jvm.Cond.instanceMethod ({ cls := "PlanBranchesModel", name := "isThere", desc := "(II)Z" } : Jvm.MethodName)) ∈ tbG := tbg 942 (by decide +kernel) (by decide +kernel)
theorem tw943 : (Jvm.Cond.code ({ cls := "PlanBranchesModel", name := "isThere", desc := "(II)Z" } : Jvm.MethodName) prog_10_method_8_code (3 : Nat) (Option.some Jvm.ClassFile.FieldType.boolean)) ∈ tbG := tbg 943 (by decide +kernel) (by decide +kernel)
theorem tw944 : (Jvm.Cond.methodLink "PlanBranchesModel" (99 : Nat) ({ cls := "PlanBranchesModel", name := "lays", desc := "(IIIIII)V" } : Jvm.MethodName)) ∈ tbG := tbg 944 (by decide +kernel) (by decide +kernel)
theorem tw946 : (Jvm.Cond.instanceMethod ({ cls := "PlanBranchesModel", name := "lays", desc := "(IIIIII)V" } : Jvm.MethodName)) ∈ tbG := tbg 946 (by decide +kernel) (by decide +kernel)
theorem tw947 : (Jvm.Cond.code ({ cls := "PlanBranchesModel", name := "lays", desc := "(IIIIII)V" } : Jvm.MethodName) prog_10_method_11_code (7 : Nat) (Option.none : Option Jvm.ClassFile.FieldType)) ∈ tbG := tbg 947 (by decide +kernel) (by decide +kernel)
theorem tw948 : (Jvm.Cond.methodLink "PlanBranchesLaw" (129 : Nat) ({ cls := "PlanBranchesModel", name := "removeTask", desc := "(II)I" } : Jvm.MethodName)) ∈ tbG := tbg 948 (by decide +kernel) (by decide +kernel)
theorem tw949 : (Jvm.Cond.instanceMethod ({ cls := "PlanBranchesModel", name := "removeTask", desc := "(II)I" } : Jvm.MethodName)) ∈ tbG := tbg 949 (by decide +kernel) (by decide +kernel)
theorem tw950 : (Jvm.Cond.selects "PlanBranchesModel" ({ cls := "PlanBranchesModel", name := "removeTask", desc := "(II)I" } : Jvm.MethodName) ({ cls := "PlanBranchesModel", name := "removeTask", desc := "(II)I" } : Jvm.MethodName)) ∈ tbG := tbg 950 (by decide +kernel) (by decide +kernel)
theorem tw951 : (Jvm.Cond.code ({ cls := "PlanBranchesModel", name := "removeTask", desc := "(II)I" } : Jvm.MethodName) prog_10_method_16_code (6 : Nat) (Option.some Jvm.ClassFile.FieldType.int)) ∈ tbG := tbg 951 (by decide +kernel) (by decide +kernel)
theorem tw952 : (Jvm.Cond.methodLink "PlanBranchesModel" (128 : Nat) ({ cls := "PlanBranchesModel", name := "isNeeded", desc := "(II)Z" } : Jvm.MethodName)) ∈ tbG := tbg 952 (by decide +kernel) (by decide +kernel)
theorem tw954 : (Jvm.Cond.instanceMethod ({ cls := "PlanBranchesModel", name := "isNeeded", desc := "(II)Z" } : Jvm.MethodName)) ∈ tbG := tbg 954 (by decide +kernel) (by decide +kernel)
theorem tw955 : (Jvm.Cond.code ({ cls := "PlanBranchesModel", name := "isNeeded", desc := "(II)Z" } : Jvm.MethodName) prog_10_method_15_code (5 : Nat) (Option.some Jvm.ClassFile.FieldType.boolean)) ∈ tbG := tbg 955 (by decide +kernel) (by decide +kernel)
theorem tw956 : (Jvm.Cond.methodLink "PlanBranchesModel" (125 : Nat) ({ cls := "PlanBranchesModel", name := "doesNeed", desc := "(III)Z" } : Jvm.MethodName)) ∈ tbG := tbg 956 (by decide +kernel) (by decide +kernel)
theorem tw958 : (Jvm.Cond.instanceMethod ({ cls := "PlanBranchesModel", name := "doesNeed", desc := "(III)Z" } : Jvm.MethodName)) ∈ tbG := tbg 958 (by decide +kernel) (by decide +kernel)
theorem tw959 : (Jvm.Cond.code ({ cls := "PlanBranchesModel", name := "doesNeed", desc := "(III)Z" } : Jvm.MethodName) prog_10_method_9_code (4 : Nat) (Option.some Jvm.ClassFile.FieldType.boolean)) ∈ tbG := tbg 959 (by decide +kernel) (by decide +kernel)
theorem tw960 : (Jvm.Cond.methodLink "PlanBranchesLaw" (133 : Nat) ({ cls := "PlanBranchesModel", name := "setNeed", desc := "(IIIZ)Z" } : Jvm.MethodName)) ∈ tbG := tbg 960 (by decide +kernel) (by decide +kernel)
theorem tw961 : (Jvm.Cond.instanceMethod ({ cls := "PlanBranchesModel", name := "setNeed", desc := "(IIIZ)Z" } : Jvm.MethodName)) ∈ tbG := tbg 961 (by decide +kernel) (by decide +kernel)
theorem tw962 : (Jvm.Cond.selects "PlanBranchesModel" ({ cls := "PlanBranchesModel", name := "setNeed", desc := "(IIIZ)Z" } : Jvm.MethodName) ({ cls := "PlanBranchesModel", name := "setNeed", desc := "(IIIZ)Z" } : Jvm.MethodName)) ∈ tbG := tbg 962 (by decide +kernel) (by decide +kernel)
theorem tw963 : (Jvm.Cond.code ({ cls := "PlanBranchesModel", name := "setNeed", desc := "(IIIZ)Z" } : Jvm.MethodName) prog_10_method_18_code (10 : Nat) (Option.some Jvm.ClassFile.FieldType.boolean)) ∈ tbG := tbg 963 (by decide +kernel) (by decide +kernel)
theorem tw964 : (Jvm.Cond.methodLink "PlanBranchesModel" (131 : Nat) ({ cls := "PlanBranchesModel", name := "allNeeds", desc := "(II)I" } : Jvm.MethodName)) ∈ tbG := tbg 964 (by decide +kernel) (by decide +kernel)
theorem tw966 : (Jvm.Cond.instanceMethod ({ cls := "PlanBranchesModel", name := "allNeeds", desc := "(II)I" } : Jvm.MethodName)) ∈ tbG := tbg 966 (by decide +kernel) (by decide +kernel)
theorem tw967 : (Jvm.Cond.code ({ cls := "PlanBranchesModel", name := "allNeeds", desc := "(II)I" } : Jvm.MethodName) prog_10_method_17_code (6 : Nat) (Option.some Jvm.ClassFile.FieldType.int)) ∈ tbG := tbg 967 (by decide +kernel) (by decide +kernel)
theorem tw968 : (Jvm.Cond.methodLink "PlanBranchesLaw" (137 : Nat) ({ cls := "PlanBranchesModel", name := "undo", desc := "(I)I" } : Jvm.MethodName)) ∈ tbG := tbg 968 (by decide +kernel) (by decide +kernel)
theorem tw969 : (Jvm.Cond.instanceMethod ({ cls := "PlanBranchesModel", name := "undo", desc := "(I)I" } : Jvm.MethodName)) ∈ tbG := tbg 969 (by decide +kernel) (by decide +kernel)
theorem tw970 : (Jvm.Cond.selects "PlanBranchesModel" ({ cls := "PlanBranchesModel", name := "undo", desc := "(I)I" } : Jvm.MethodName) ({ cls := "PlanBranchesModel", name := "undo", desc := "(I)I" } : Jvm.MethodName)) ∈ tbG := tbg 970 (by decide +kernel) (by decide +kernel)
theorem tw971 : (Jvm.Cond.code ({ cls := "PlanBranchesModel", name := "undo", desc := "(I)I" } : Jvm.MethodName) prog_10_method_19_code (3 : Nat) (Option.some Jvm.ClassFile.FieldType.int)) ∈ tbG := tbg 971 (by decide +kernel) (by decide +kernel)
theorem tw972 : (Jvm.Cond.methodLink "PlanBranchesLaw" (140 : Nat) ({ cls := "PlanBranchesModel", name := "tasks", desc := "(I)I" } : Jvm.MethodName)) ∈ tbG := tbg 972 (by decide +kernel) (by decide +kernel)
theorem tw973 : (Jvm.Cond.instanceMethod ({ cls := "PlanBranchesModel", name := "tasks", desc := "(I)I" } : Jvm.MethodName)) ∈ tbG := tbg 973 (by decide +kernel) (by decide +kernel)
theorem tw974 : (Jvm.Cond.selects "PlanBranchesModel" ({ cls := "PlanBranchesModel", name := "tasks", desc := "(I)I" } : Jvm.MethodName) ({ cls := "PlanBranchesModel", name := "tasks", desc := "(I)I" } : Jvm.MethodName)) ∈ tbG := tbg 974 (by decide +kernel) (by decide +kernel)
theorem tw975 : (Jvm.Cond.code ({ cls := "PlanBranchesModel", name := "tasks", desc := "(I)I" } : Jvm.MethodName) prog_10_method_21_code (2 : Nat) (Option.some Jvm.ClassFile.FieldType.int)) ∈ tbG := tbg 975 (by decide +kernel) (by decide +kernel)
theorem tw976 : (Jvm.Cond.methodLink "PlanBranchesModel" (134 : Nat) ({ cls := "PlanBranchesModel", name := "tasks0", desc := "(I)I" } : Jvm.MethodName)) ∈ tbG := tbg 976 (by decide +kernel) (by decide +kernel)
theorem tw978 : (Jvm.Cond.instanceMethod ({ cls := "PlanBranchesModel", name := "tasks0", desc := "(I)I" } : Jvm.MethodName)) ∈ tbG := tbg 978 (by decide +kernel) (by decide +kernel)
theorem tw979 : (Jvm.Cond.code ({ cls := "PlanBranchesModel", name := "tasks0", desc := "(I)I" } : Jvm.MethodName) prog_10_method_20_code (4 : Nat) (Option.some Jvm.ClassFile.FieldType.int)) ∈ tbG := tbg 979 (by decide +kernel) (by decide +kernel)
theorem tw980 : (Jvm.Cond.methodLink "PlanBranchesLaw" (143 : Nat) ({ cls := "PlanBranchesModel", name := "length", desc := "(II)I" } : Jvm.MethodName)) ∈ tbG := tbg 980 (by decide +kernel) (by decide +kernel)
theorem tw981 : (Jvm.Cond.instanceMethod ({ cls := "PlanBranchesModel", name := "length", desc := "(II)I" } : Jvm.MethodName)) ∈ tbG := tbg 981 (by decide +kernel) (by decide +kernel)
theorem tw982 : (Jvm.Cond.selects "PlanBranchesModel" ({ cls := "PlanBranchesModel", name := "length", desc := "(II)I" } : Jvm.MethodName) ({ cls := "PlanBranchesModel", name := "length", desc := "(II)I" } : Jvm.MethodName)) ∈ tbG := tbg 982 (by decide +kernel) (by decide +kernel)
theorem tw983 : (Jvm.Cond.code ({ cls := "PlanBranchesModel", name := "length", desc := "(II)I" } : Jvm.MethodName) prog_10_method_23_code (3 : Nat) (Option.some Jvm.ClassFile.FieldType.int)) ∈ tbG := tbg 983 (by decide +kernel) (by decide +kernel)
theorem tw984 : (Jvm.Cond.methodLink "PlanBranchesModel" (138 : Nat) ({ cls := "PlanBranchesModel", name := "asks", desc := "(II)Z" } : Jvm.MethodName)) ∈ tbG := tbg 984 (by decide +kernel) (by decide +kernel)
theorem tw986 : (Jvm.Cond.instanceMethod ({ cls := "PlanBranchesModel", name := "asks", desc := "(II)Z" } : Jvm.MethodName)) ∈ tbG := tbg 986 (by decide +kernel) (by decide +kernel)
theorem tw987 : (Jvm.Cond.code ({ cls := "PlanBranchesModel", name := "asks", desc := "(II)Z" } : Jvm.MethodName) prog_10_method_22_code (3 : Nat) (Option.some Jvm.ClassFile.FieldType.boolean)) ∈ tbG := tbg 987 (by decide +kernel) (by decide +kernel)
theorem tw988 : (Jvm.Cond.methodLink "PlanBranchesLaw" (146 : Nat) ({ cls := "PlanBranchesModel", name := "crew", desc := "(II)I" } : Jvm.MethodName)) ∈ tbG := tbg 988 (by decide +kernel) (by decide +kernel)
theorem tw989 : (Jvm.Cond.instanceMethod ({ cls := "PlanBranchesModel", name := "crew", desc := "(II)I" } : Jvm.MethodName)) ∈ tbG := tbg 989 (by decide +kernel) (by decide +kernel)
theorem tw990 : (Jvm.Cond.selects "PlanBranchesModel" ({ cls := "PlanBranchesModel", name := "crew", desc := "(II)I" } : Jvm.MethodName) ({ cls := "PlanBranchesModel", name := "crew", desc := "(II)I" } : Jvm.MethodName)) ∈ tbG := tbg 990 (by decide +kernel) (by decide +kernel)
theorem tw991 : (Jvm.Cond.code ({ cls := "PlanBranchesModel", name := "crew", desc := "(II)I" } : Jvm.MethodName) prog_10_method_24_code (3 : Nat) (Option.some Jvm.ClassFile.FieldType.int)) ∈ tbG := tbg 991 (by decide +kernel) (by decide +kernel)
theorem tw992 : (Jvm.Cond.methodLink "PlanBranchesLaw" (149 : Nat) ({ cls := "PlanBranchesModel", name := "needs", desc := "(II)I" } : Jvm.MethodName)) ∈ tbG := tbg 992 (by decide +kernel) (by decide +kernel)
theorem tw993 : (Jvm.Cond.instanceMethod ({ cls := "PlanBranchesModel", name := "needs", desc := "(II)I" } : Jvm.MethodName)) ∈ tbG := tbg 993 (by decide +kernel) (by decide +kernel)
theorem tw994 : (Jvm.Cond.selects "PlanBranchesModel" ({ cls := "PlanBranchesModel", name := "needs", desc := "(II)I" } : Jvm.MethodName) ({ cls := "PlanBranchesModel", name := "needs", desc := "(II)I" } : Jvm.MethodName)) ∈ tbG := tbg 994 (by decide +kernel) (by decide +kernel)
theorem tw995 : (Jvm.Cond.code ({ cls := "PlanBranchesModel", name := "needs", desc := "(II)I" } : Jvm.MethodName) prog_10_method_25_code (3 : Nat) (Option.some Jvm.ClassFile.FieldType.int)) ∈ tbG := tbg 995 (by decide +kernel) (by decide +kernel)
theorem tw996 : (Jvm.Cond.methodLink "PlanBranchesLaw" (152 : Nat) ({ cls := "PlanBranchesModel", name := "cost", desc := "(I)I" } : Jvm.MethodName)) ∈ tbG := tbg 996 (by decide +kernel) (by decide +kernel)
theorem tw997 : (Jvm.Cond.instanceMethod ({ cls := "PlanBranchesModel", name := "cost", desc := "(I)I" } : Jvm.MethodName)) ∈ tbG := tbg 997 (by decide +kernel) (by decide +kernel)
theorem tw998 : (Jvm.Cond.selects "PlanBranchesModel" ({ cls := "PlanBranchesModel", name := "cost", desc := "(I)I" } : Jvm.MethodName) ({ cls := "PlanBranchesModel", name := "cost", desc := "(I)I" } : Jvm.MethodName)) ∈ tbG := tbg 998 (by decide +kernel) (by decide +kernel)
theorem tw999 : (Jvm.Cond.code ({ cls := "PlanBranchesModel", name := "cost", desc := "(I)I" } : Jvm.MethodName) prog_10_method_27_code (2 : Nat) (Option.some Jvm.ClassFile.FieldType.int)) ∈ tbG := tbg 999 (by decide +kernel) (by decide +kernel)
theorem tw1000 : (Jvm.Cond.methodLink "PlanBranchesModel" (141 : Nat) ({ cls := "PlanBranchesModel", name := "cost0", desc := "(I)I" } : Jvm.MethodName)) ∈ tbG := tbg 1000 (by decide +kernel) (by decide +kernel)
theorem tw1002 : (Jvm.Cond.instanceMethod ({ cls := "PlanBranchesModel", name := "cost0", desc := "(I)I" } : Jvm.MethodName)) ∈ tbG := tbg 1002 (by decide +kernel) (by decide +kernel)
theorem tw1003 : (Jvm.Cond.code ({ cls := "PlanBranchesModel", name := "cost0", desc := "(I)I" } : Jvm.MethodName) prog_10_method_26_code (4 : Nat) (Option.some Jvm.ClassFile.FieldType.int)) ∈ tbG := tbg 1003 (by decide +kernel) (by decide +kernel)
theorem tw1004 : (Jvm.Cond.methodLink "PlanBranchesLaw" (155 : Nat) ({ cls := "PlanBranchesModel", name := "begin", desc := "(I)I" } : Jvm.MethodName)) ∈ tbG := tbg 1004 (by decide +kernel) (by decide +kernel)
theorem tw1005 : (Jvm.Cond.instanceMethod ({ cls := "PlanBranchesModel", name := "begin", desc := "(I)I" } : Jvm.MethodName)) ∈ tbG := tbg 1005 (by decide +kernel) (by decide +kernel)
theorem tw1006 : (Jvm.Cond.selects "PlanBranchesModel" ({ cls := "PlanBranchesModel", name := "begin", desc := "(I)I" } : Jvm.MethodName) ({ cls := "PlanBranchesModel", name := "begin", desc := "(I)I" } : Jvm.MethodName)) ∈ tbG := tbg 1006 (by decide +kernel) (by decide +kernel)
theorem tw1007 : (Jvm.Cond.code ({ cls := "PlanBranchesModel", name := "begin", desc := "(I)I" } : Jvm.MethodName) prog_10_method_29_code (3 : Nat) (Option.some Jvm.ClassFile.FieldType.int)) ∈ tbG := tbg 1007 (by decide +kernel) (by decide +kernel)
theorem tw1008 : (Jvm.Cond.methodLink "PlanBranchesModel" (144 : Nat) ({ cls := "PlanBranchesModel", name := "copies", desc := "(II)V" } : Jvm.MethodName)) ∈ tbG := tbg 1008 (by decide +kernel) (by decide +kernel)
theorem tw1010 : (Jvm.Cond.instanceMethod ({ cls := "PlanBranchesModel", name := "copies", desc := "(II)V" } : Jvm.MethodName)) ∈ tbG := tbg 1010 (by decide +kernel) (by decide +kernel)
theorem tw1011 : (Jvm.Cond.code ({ cls := "PlanBranchesModel", name := "copies", desc := "(II)V" } : Jvm.MethodName) prog_10_method_13_code (4 : Nat) (Option.none : Option Jvm.ClassFile.FieldType)) ∈ tbG := tbg 1011 (by decide +kernel) (by decide +kernel)
theorem tw1012 : (Jvm.Cond.methodLink "PlanBranchesModel" (103 : Nat) ({ cls := "PlanBranchesModel", name := "copiesTask", desc := "(III)V" } : Jvm.MethodName)) ∈ tbG := tbg 1012 (by decide +kernel) (by decide +kernel)
theorem tw1014 : (Jvm.Cond.instanceMethod ({ cls := "PlanBranchesModel", name := "copiesTask", desc := "(III)V" } : Jvm.MethodName)) ∈ tbG := tbg 1014 (by decide +kernel) (by decide +kernel)
theorem tw1015 : (Jvm.Cond.code ({ cls := "PlanBranchesModel", name := "copiesTask", desc := "(III)V" } : Jvm.MethodName) prog_10_method_12_code (4 : Nat) (Option.none : Option Jvm.ClassFile.FieldType)) ∈ tbG := tbg 1015 (by decide +kernel) (by decide +kernel)
theorem tw1016 : (Jvm.Cond.methodLink "PlanBranchesModel" (147 : Nat) ({ cls := "PlanBranchesModel", name := "forgets", desc := "(I)V" } : Jvm.MethodName)) ∈ tbG := tbg 1016 (by decide +kernel) (by decide +kernel)
theorem tw1018 : (Jvm.Cond.instanceMethod ({ cls := "PlanBranchesModel", name := "forgets", desc := "(I)V" } : Jvm.MethodName)) ∈ tbG := tbg 1018 (by decide +kernel) (by decide +kernel)
theorem tw1019 : (Jvm.Cond.code ({ cls := "PlanBranchesModel", name := "forgets", desc := "(I)V" } : Jvm.MethodName) prog_10_method_28_code (3 : Nat) (Option.none : Option Jvm.ClassFile.FieldType)) ∈ tbG := tbg 1019 (by decide +kernel) (by decide +kernel)
theorem tw1020 : (Jvm.Cond.methodLink "PlanBranchesLaw" (159 : Nat) ({ cls := "PlanBranchesModel", name := "branches", desc := "()I" } : Jvm.MethodName)) ∈ tbG := tbg 1020 (by decide +kernel) (by decide +kernel)
theorem tw1021 : (Jvm.Cond.instanceMethod ({ cls := "PlanBranchesModel", name := "branches", desc := "()I" } : Jvm.MethodName)) ∈ tbG := tbg 1021 (by decide +kernel) (by decide +kernel)
theorem tw1022 : (Jvm.Cond.selects "PlanBranchesModel" ({ cls := "PlanBranchesModel", name := "branches", desc := "()I" } : Jvm.MethodName) ({ cls := "PlanBranchesModel", name := "branches", desc := "()I" } : Jvm.MethodName)) ∈ tbG := tbg 1022 (by decide +kernel) (by decide +kernel)
theorem tw1023 : (Jvm.Cond.code ({ cls := "PlanBranchesModel", name := "branches", desc := "()I" } : Jvm.MethodName) prog_10_method_30_code (1 : Nat) (Option.some Jvm.ClassFile.FieldType.int)) ∈ tbG := tbg 1023 (by decide +kernel) (by decide +kernel)
theorem tw1024 : (Jvm.Cond.methodLink "PlanBranchesLaw" (162 : Nat) ({ cls := "PlanBranchesModel", name := "parent", desc := "(I)I" } : Jvm.MethodName)) ∈ tbG := tbg 1024 (by decide +kernel) (by decide +kernel)
theorem tw1025 : (Jvm.Cond.instanceMethod ({ cls := "PlanBranchesModel", name := "parent", desc := "(I)I" } : Jvm.MethodName)) ∈ tbG := tbg 1025 (by decide +kernel) (by decide +kernel)
theorem tw1026 : (Jvm.Cond.selects "PlanBranchesModel" ({ cls := "PlanBranchesModel", name := "parent", desc := "(I)I" } : Jvm.MethodName) ({ cls := "PlanBranchesModel", name := "parent", desc := "(I)I" } : Jvm.MethodName)) ∈ tbG := tbg 1026 (by decide +kernel) (by decide +kernel)
theorem tw1027 : (Jvm.Cond.code ({ cls := "PlanBranchesModel", name := "parent", desc := "(I)I" } : Jvm.MethodName) prog_10_method_31_code (2 : Nat) (Option.some Jvm.ClassFile.FieldType.int)) ∈ tbG := tbg 1027 (by decide +kernel) (by decide +kernel)
theorem tw1028 : (Jvm.Cond.methodLink "PlanBranchesLaw" (165 : Nat) ({ cls := "PlanBranchesModel", name := "setBudget", desc := "(II)I" } : Jvm.MethodName)) ∈ tbG := tbg 1028 (by decide +kernel) (by decide +kernel)
theorem tw1029 : (Jvm.Cond.instanceMethod ({ cls := "PlanBranchesModel", name := "setBudget", desc := "(II)I" } : Jvm.MethodName)) ∈ tbG := tbg 1029 (by decide +kernel) (by decide +kernel)
theorem tw1030 : (Jvm.Cond.selects "PlanBranchesModel" ({ cls := "PlanBranchesModel", name := "setBudget", desc := "(II)I" } : Jvm.MethodName) ({ cls := "PlanBranchesModel", name := "setBudget", desc := "(II)I" } : Jvm.MethodName)) ∈ tbG := tbg 1030 (by decide +kernel) (by decide +kernel)
theorem tw1031 : (Jvm.Cond.code ({ cls := "PlanBranchesModel", name := "setBudget", desc := "(II)I" } : Jvm.MethodName) prog_10_method_32_code (4 : Nat) (Option.some Jvm.ClassFile.FieldType.int)) ∈ tbG := tbg 1031 (by decide +kernel) (by decide +kernel)
theorem tw1032 : (Jvm.Cond.methodLink "PlanBranchesLaw" (169 : Nat) ({ cls := "PlanBranchesModel", name := "resolve", desc := "(III)I" } : Jvm.MethodName)) ∈ tbG := tbg 1032 (by decide +kernel) (by decide +kernel)
theorem tw1033 : (Jvm.Cond.instanceMethod ({ cls := "PlanBranchesModel", name := "resolve", desc := "(III)I" } : Jvm.MethodName)) ∈ tbG := tbg 1033 (by decide +kernel) (by decide +kernel)
theorem tw1034 : (Jvm.Cond.selects "PlanBranchesModel" ({ cls := "PlanBranchesModel", name := "resolve", desc := "(III)I" } : Jvm.MethodName) ({ cls := "PlanBranchesModel", name := "resolve", desc := "(III)I" } : Jvm.MethodName)) ∈ tbG := tbg 1034 (by decide +kernel) (by decide +kernel)
theorem tw1035 : (Jvm.Cond.code ({ cls := "PlanBranchesModel", name := "resolve", desc := "(III)I" } : Jvm.MethodName) prog_10_method_33_code (6 : Nat) (Option.some Jvm.ClassFile.FieldType.int)) ∈ tbG := tbg 1035 (by decide +kernel) (by decide +kernel)
theorem tw1036 : (Jvm.Cond.methodLink "PlanBranchesLaw" (172 : Nat) ({ cls := "PlanBranchesModel", name := "clashes", desc := "(I)I" } : Jvm.MethodName)) ∈ tbG := tbg 1036 (by decide +kernel) (by decide +kernel)
theorem tw1037 : (Jvm.Cond.instanceMethod ({ cls := "PlanBranchesModel", name := "clashes", desc := "(I)I" } : Jvm.MethodName)) ∈ tbG := tbg 1037 (by decide +kernel) (by decide +kernel)
theorem tw1038 : (Jvm.Cond.selects "PlanBranchesModel" ({ cls := "PlanBranchesModel", name := "clashes", desc := "(I)I" } : Jvm.MethodName) ({ cls := "PlanBranchesModel", name := "clashes", desc := "(I)I" } : Jvm.MethodName)) ∈ tbG := tbg 1038 (by decide +kernel) (by decide +kernel)
theorem tw1039 : (Jvm.Cond.code ({ cls := "PlanBranchesModel", name := "clashes", desc := "(I)I" } : Jvm.MethodName) prog_10_method_40_code (2 : Nat) (Option.some Jvm.ClassFile.FieldType.int)) ∈ tbG := tbg 1039 (by decide +kernel) (by decide +kernel)
theorem tw1040 : (Jvm.Cond.methodLink "PlanBranchesModel" (171 : Nat) ({ cls := "PlanBranchesModel", name := "joins", desc := "(I)I" } : Jvm.MethodName)) ∈ tbG := tbg 1040 (by decide +kernel) (by decide +kernel)
theorem tw1042 : (Jvm.Cond.instanceMethod ({ cls := "PlanBranchesModel", name := "joins", desc := "(I)I" } : Jvm.MethodName)) ∈ tbG := tbg 1042 (by decide +kernel) (by decide +kernel)
theorem tw1043 : (Jvm.Cond.code ({ cls := "PlanBranchesModel", name := "joins", desc := "(I)I" } : Jvm.MethodName) prog_10_method_39_code (5 : Nat) (Option.some Jvm.ClassFile.FieldType.int)) ∈ tbG := tbg 1043 (by decide +kernel) (by decide +kernel)
theorem tw1044 : (Jvm.Cond.methodLink "PlanBranchesModel" (168 : Nat) ({ cls := "PlanBranchesModel", name := "joinsTask", desc := "(IIII)Z" } : Jvm.MethodName)) ∈ tbG := tbg 1044 (by decide +kernel) (by decide +kernel)
theorem tw1046 : (Jvm.Cond.instanceMethod ({ cls := "PlanBranchesModel", name := "joinsTask", desc := "(IIII)Z" } : Jvm.MethodName)) ∈ tbG := tbg 1046 (by decide +kernel) (by decide +kernel)
theorem tw1047 : (Jvm.Cond.code ({ cls := "PlanBranchesModel", name := "joinsTask", desc := "(IIII)Z" } : Jvm.MethodName) prog_10_method_38_code (7 : Nat) (Option.some Jvm.ClassFile.FieldType.boolean)) ∈ tbG := tbg 1047 (by decide +kernel) (by decide +kernel)
theorem tw1048 : (Jvm.Cond.methodLink "PlanBranchesModel" (158 : Nat) ({ cls := "PlanBranchesModel", name := "isSame", desc := "(III)Z" } : Jvm.MethodName)) ∈ tbG := tbg 1048 (by decide +kernel) (by decide +kernel)
theorem tw1050 : (Jvm.Cond.instanceMethod ({ cls := "PlanBranchesModel", name := "isSame", desc := "(III)Z" } : Jvm.MethodName)) ∈ tbG := tbg 1050 (by decide +kernel) (by decide +kernel)
theorem tw1051 : (Jvm.Cond.code ({ cls := "PlanBranchesModel", name := "isSame", desc := "(III)Z" } : Jvm.MethodName) prog_10_method_34_code (6 : Nat) (Option.some Jvm.ClassFile.FieldType.boolean)) ∈ tbG := tbg 1051 (by decide +kernel) (by decide +kernel)
theorem tw1052 : (Jvm.Cond.methodLink "PlanBranchesModel" (161 : Nat) ({ cls := "PlanBranchesModel", name := "mixes", desc := "(IIII)Z" } : Jvm.MethodName)) ∈ tbG := tbg 1052 (by decide +kernel) (by decide +kernel)
theorem tw1054 : (Jvm.Cond.instanceMethod ({ cls := "PlanBranchesModel", name := "mixes", desc := "(IIII)Z" } : Jvm.MethodName)) ∈ tbG := tbg 1054 (by decide +kernel) (by decide +kernel)
theorem tw1055 : (Jvm.Cond.code ({ cls := "PlanBranchesModel", name := "mixes", desc := "(IIII)Z" } : Jvm.MethodName) prog_10_method_37_code (9 : Nat) (Option.some Jvm.ClassFile.FieldType.boolean)) ∈ tbG := tbg 1055 (by decide +kernel) (by decide +kernel)
theorem tw1056 : (Jvm.Cond.methodLink "PlanBranchesModel" (151 : Nat) ({ cls := "PlanBranchesModel", name := "mixed", desc := "(III)I" } : Jvm.MethodName)) ∈ tbG := tbg 1056 (by decide +kernel) (by decide +kernel)
theorem tw1057 : (Jvm.Cond.static ({ cls := "PlanBranchesModel", name := "mixed", desc := "(III)I" } : Jvm.MethodName)) ∈ tbG := tbg 1057 (by decide +kernel) (by decide +kernel)
theorem tw1058 : (Jvm.Cond.code ({ cls := "PlanBranchesModel", name := "mixed", desc := "(III)I" } : Jvm.MethodName) prog_10_method_36_code (3 : Nat) (Option.some Jvm.ClassFile.FieldType.int)) ∈ tbG := tbg 1058 (by decide +kernel) (by decide +kernel)
theorem tw1059 : (Jvm.Cond.methodLink "PlanBranchesModel" (155 : Nat) ({ cls := "PlanBranchesModel", name := "isOpen", desc := "(III)Z" } : Jvm.MethodName)) ∈ tbG := tbg 1059 (by decide +kernel) (by decide +kernel)
theorem tw1060 : (Jvm.Cond.static ({ cls := "PlanBranchesModel", name := "isOpen", desc := "(III)Z" } : Jvm.MethodName)) ∈ tbG := tbg 1060 (by decide +kernel) (by decide +kernel)
theorem tw1061 : (Jvm.Cond.code ({ cls := "PlanBranchesModel", name := "isOpen", desc := "(III)Z" } : Jvm.MethodName) prog_10_method_35_code (3 : Nat) (Option.some Jvm.ClassFile.FieldType.boolean)) ∈ tbG := tbg 1061 (by decide +kernel) (by decide +kernel)
theorem tw1062 : (Jvm.Cond.methodLink "PlanBranchesLaw" (176 : Nat) ({ cls := "PlanBranchesModel", name := "reason", desc := "(IZ)I" } : Jvm.MethodName)) ∈ tbG := tbg 1062 (by decide +kernel) (by decide +kernel)
theorem tw1063 : (Jvm.Cond.instanceMethod ({ cls := "PlanBranchesModel", name := "reason", desc := "(IZ)I" } : Jvm.MethodName)) ∈ tbG := tbg 1063 (by decide +kernel) (by decide +kernel)
theorem tw1064 : (Jvm.Cond.selects "PlanBranchesModel" ({ cls := "PlanBranchesModel", name := "reason", desc := "(IZ)I" } : Jvm.MethodName) ({ cls := "PlanBranchesModel", name := "reason", desc := "(IZ)I" } : Jvm.MethodName)) ∈ tbG := tbg 1064 (by decide +kernel) (by decide +kernel)
theorem tw1065 : (Jvm.Cond.code ({ cls := "PlanBranchesModel", name := "reason", desc := "(IZ)I" } : Jvm.MethodName) prog_10_method_46_code (3 : Nat) (Option.some Jvm.ClassFile.FieldType.int)) ∈ tbG := tbg 1065 (by decide +kernel) (by decide +kernel)
theorem tw1066 : (Jvm.Cond.methodLink "PlanBranchesModel" (184 : Nat) ({ cls := "PlanBranchesModel", name := "isOwn", desc := "(I)Z" } : Jvm.MethodName)) ∈ tbG := tbg 1066 (by decide +kernel) (by decide +kernel)
theorem tw1068 : (Jvm.Cond.instanceMethod ({ cls := "PlanBranchesModel", name := "isOwn", desc := "(I)Z" } : Jvm.MethodName)) ∈ tbG := tbg 1068 (by decide +kernel) (by decide +kernel)
theorem tw1069 : (Jvm.Cond.code ({ cls := "PlanBranchesModel", name := "isOwn", desc := "(I)Z" } : Jvm.MethodName) prog_10_method_45_code (2 : Nat) (Option.some Jvm.ClassFile.FieldType.boolean)) ∈ tbG := tbg 1069 (by decide +kernel) (by decide +kernel)
theorem tw1070 : (Jvm.Cond.methodLink "PlanBranchesModel" (187 : Nat) ({ cls := "PlanBranchesModel", name := "reasonNow", desc := "(IZ)I" } : Jvm.MethodName)) ∈ tbG := tbg 1070 (by decide +kernel) (by decide +kernel)
theorem tw1072 : (Jvm.Cond.instanceMethod ({ cls := "PlanBranchesModel", name := "reasonNow", desc := "(IZ)I" } : Jvm.MethodName)) ∈ tbG := tbg 1072 (by decide +kernel) (by decide +kernel)
theorem tw1073 : (Jvm.Cond.code ({ cls := "PlanBranchesModel", name := "reasonNow", desc := "(IZ)I" } : Jvm.MethodName) prog_10_method_44_code (4 : Nat) (Option.some Jvm.ClassFile.FieldType.int)) ∈ tbG := tbg 1073 (by decide +kernel) (by decide +kernel)
theorem tw1074 : (Jvm.Cond.methodLink "PlanBranchesModel" (174 : Nat) ({ cls := "PlanBranchesModel", name := "missing", desc := "()I" } : Jvm.MethodName)) ∈ tbG := tbg 1074 (by decide +kernel) (by decide +kernel)
theorem tw1076 : (Jvm.Cond.instanceMethod ({ cls := "PlanBranchesModel", name := "missing", desc := "()I" } : Jvm.MethodName)) ∈ tbG := tbg 1076 (by decide +kernel) (by decide +kernel)
theorem tw1077 : (Jvm.Cond.code ({ cls := "PlanBranchesModel", name := "missing", desc := "()I" } : Jvm.MethodName) prog_10_method_42_code (4 : Nat) (Option.some Jvm.ClassFile.FieldType.int)) ∈ tbG := tbg 1077 (by decide +kernel) (by decide +kernel)
theorem tw1078 : (Jvm.Cond.methodLink "PlanBranchesModel" (178 : Nat) ({ cls := "PlanBranchesModel", name := "rings", desc := "()I" } : Jvm.MethodName)) ∈ tbG := tbg 1078 (by decide +kernel) (by decide +kernel)
theorem tw1080 : (Jvm.Cond.instanceMethod ({ cls := "PlanBranchesModel", name := "rings", desc := "()I" } : Jvm.MethodName)) ∈ tbG := tbg 1080 (by decide +kernel) (by decide +kernel)
theorem tw1081 : (Jvm.Cond.code ({ cls := "PlanBranchesModel", name := "rings", desc := "()I" } : Jvm.MethodName) prog_10_method_43_code (3 : Nat) (Option.some Jvm.ClassFile.FieldType.int)) ∈ tbG := tbg 1081 (by decide +kernel) (by decide +kernel)
theorem tw1082 : (Jvm.Cond.methodLink "PlanBranchesModel" (181 : Nat) ({ cls := "PlanBranchesModel", name := "unplaced", desc := "(II)I" } : Jvm.MethodName)) ∈ tbG := tbg 1082 (by decide +kernel) (by decide +kernel)
theorem tw1084 : (Jvm.Cond.instanceMethod ({ cls := "PlanBranchesModel", name := "unplaced", desc := "(II)I" } : Jvm.MethodName)) ∈ tbG := tbg 1084 (by decide +kernel) (by decide +kernel)
theorem tw1085 : (Jvm.Cond.code ({ cls := "PlanBranchesModel", name := "unplaced", desc := "(II)I" } : Jvm.MethodName) prog_10_method_66_code (8 : Nat) (Option.some Jvm.ClassFile.FieldType.int)) ∈ tbG := tbg 1085 (by decide +kernel) (by decide +kernel)
theorem tw1086 : (Jvm.Cond.methodLink "PlanBranchesModel" (209 : Nat) ({ cls := "PlanBranchesModel", name := "goes", desc := "(I)I" } : Jvm.MethodName)) ∈ tbG := tbg 1086 (by decide +kernel) (by decide +kernel)
theorem tw1088 : (Jvm.Cond.instanceMethod ({ cls := "PlanBranchesModel", name := "goes", desc := "(I)I" } : Jvm.MethodName)) ∈ tbG := tbg 1088 (by decide +kernel) (by decide +kernel)
theorem tw1089 : (Jvm.Cond.code ({ cls := "PlanBranchesModel", name := "goes", desc := "(I)I" } : Jvm.MethodName) prog_10_method_57_code (6 : Nat) (Option.some Jvm.ClassFile.FieldType.int)) ∈ tbG := tbg 1089 (by decide +kernel) (by decide +kernel)
theorem tw1090 : (Jvm.Cond.methodLink "PlanBranchesModel" (212 : Nat) ({ cls := "PlanBranchesModel", name := "clears", desc := "()V" } : Jvm.MethodName)) ∈ tbG := tbg 1090 (by decide +kernel) (by decide +kernel)
theorem tw1092 : (Jvm.Cond.instanceMethod ({ cls := "PlanBranchesModel", name := "clears", desc := "()V" } : Jvm.MethodName)) ∈ tbG := tbg 1092 (by decide +kernel) (by decide +kernel)
theorem tw1093 : (Jvm.Cond.code ({ cls := "PlanBranchesModel", name := "clears", desc := "()V" } : Jvm.MethodName) prog_10_method_62_code (2 : Nat) (Option.none : Option Jvm.ClassFile.FieldType)) ∈ tbG := tbg 1093 (by decide +kernel) (by decide +kernel)
theorem tw1094 : (Jvm.Cond.methodLink "PlanBranchesModel" (215 : Nat) ({ cls := "PlanBranchesModel", name := "finds", desc := "(I)V" } : Jvm.MethodName)) ∈ tbG := tbg 1094 (by decide +kernel) (by decide +kernel)
theorem tw1096 : (Jvm.Cond.instanceMethod ({ cls := "PlanBranchesModel", name := "finds", desc := "(I)V" } : Jvm.MethodName)) ∈ tbG := tbg 1096 (by decide +kernel) (by decide +kernel)
theorem tw1097 : (Jvm.Cond.code ({ cls := "PlanBranchesModel", name := "finds", desc := "(I)V" } : Jvm.MethodName) prog_10_method_63_code (3 : Nat) (Option.none : Option Jvm.ClassFile.FieldType)) ∈ tbG := tbg 1097 (by decide +kernel) (by decide +kernel)
theorem tw1098 : (Jvm.Cond.methodLink "PlanBranchesModel" (206 : Nat) ({ cls := "PlanBranchesModel", name := "holds", desc := "(II)I" } : Jvm.MethodName)) ∈ tbG := tbg 1098 (by decide +kernel) (by decide +kernel)
theorem tw1100 : (Jvm.Cond.instanceMethod ({ cls := "PlanBranchesModel", name := "holds", desc := "(II)I" } : Jvm.MethodName)) ∈ tbG := tbg 1100 (by decide +kernel) (by decide +kernel)
theorem tw1101 : (Jvm.Cond.code ({ cls := "PlanBranchesModel", name := "holds", desc := "(II)I" } : Jvm.MethodName) prog_10_method_55_code (5 : Nat) (Option.some Jvm.ClassFile.FieldType.int)) ∈ tbG := tbg 1101 (by decide +kernel) (by decide +kernel)
theorem tw1102 : (Jvm.Cond.methodLink "PlanBranchesModel" (218 : Nat) ({ cls := "PlanBranchesModel", name := "isReady", desc := "(II)Z" } : Jvm.MethodName)) ∈ tbG := tbg 1102 (by decide +kernel) (by decide +kernel)
theorem tw1104 : (Jvm.Cond.instanceMethod ({ cls := "PlanBranchesModel", name := "isReady", desc := "(II)Z" } : Jvm.MethodName)) ∈ tbG := tbg 1104 (by decide +kernel) (by decide +kernel)
theorem tw1105 : (Jvm.Cond.code ({ cls := "PlanBranchesModel", name := "isReady", desc := "(II)Z" } : Jvm.MethodName) prog_10_method_64_code (5 : Nat) (Option.some Jvm.ClassFile.FieldType.boolean)) ∈ tbG := tbg 1105 (by decide +kernel) (by decide +kernel)
theorem tw1106 : (Jvm.Cond.methodLink "PlanBranchesModel" (221 : Nat) ({ cls := "PlanBranchesModel", name := "places", desc := "(II)I" } : Jvm.MethodName)) ∈ tbG := tbg 1106 (by decide +kernel) (by decide +kernel)
theorem tw1108 : (Jvm.Cond.instanceMethod ({ cls := "PlanBranchesModel", name := "places", desc := "(II)I" } : Jvm.MethodName)) ∈ tbG := tbg 1108 (by decide +kernel) (by decide +kernel)
theorem tw1109 : (Jvm.Cond.code ({ cls := "PlanBranchesModel", name := "places", desc := "(II)I" } : Jvm.MethodName) prog_10_method_65_code (9 : Nat) (Option.some Jvm.ClassFile.FieldType.int)) ∈ tbG := tbg 1109 (by decide +kernel) (by decide +kernel)
theorem tw1110 : (Jvm.Cond.methodLink "PlanBranchesLaw" (179 : Nat) ({ cls := "PlanBranchesModel", name := "reasonTask", desc := "(IZ)I" } : Jvm.MethodName)) ∈ tbG := tbg 1110 (by decide +kernel) (by decide +kernel)
theorem tw1111 : (Jvm.Cond.instanceMethod ({ cls := "PlanBranchesModel", name := "reasonTask", desc := "(IZ)I" } : Jvm.MethodName)) ∈ tbG := tbg 1111 (by decide +kernel) (by decide +kernel)
theorem tw1112 : (Jvm.Cond.selects "PlanBranchesModel" ({ cls := "PlanBranchesModel", name := "reasonTask", desc := "(IZ)I" } : Jvm.MethodName) ({ cls := "PlanBranchesModel", name := "reasonTask", desc := "(IZ)I" } : Jvm.MethodName)) ∈ tbG := tbg 1112 (by decide +kernel) (by decide +kernel)
theorem tw1113 : (Jvm.Cond.code ({ cls := "PlanBranchesModel", name := "reasonTask", desc := "(IZ)I" } : Jvm.MethodName) prog_10_method_47_code (5 : Nat) (Option.some Jvm.ClassFile.FieldType.int)) ∈ tbG := tbg 1113 (by decide +kernel) (by decide +kernel)
theorem tw1114 : (Jvm.Cond.methodLink "PlanBranchesModel" (191 : Nat) ({ cls := "PlanBranchesModel", name := "lowest", desc := "(I)I" } : Jvm.MethodName)) ∈ tbG := tbg 1114 (by decide +kernel) (by decide +kernel)
theorem tw1115 : (Jvm.Cond.static ({ cls := "PlanBranchesModel", name := "lowest", desc := "(I)I" } : Jvm.MethodName)) ∈ tbG := tbg 1115 (by decide +kernel) (by decide +kernel)
theorem tw1116 : (Jvm.Cond.code ({ cls := "PlanBranchesModel", name := "lowest", desc := "(I)I" } : Jvm.MethodName) prog_10_method_41_code (2 : Nat) (Option.some Jvm.ClassFile.FieldType.int)) ∈ tbG := tbg 1116 (by decide +kernel) (by decide +kernel)
theorem tw1117 : (Jvm.Cond.methodLink "PlanBranchesLaw" (182 : Nat) ({ cls := "PlanBranchesModel", name := "merge", desc := "(I)I" } : Jvm.MethodName)) ∈ tbG := tbg 1117 (by decide +kernel) (by decide +kernel)
theorem tw1118 : (Jvm.Cond.instanceMethod ({ cls := "PlanBranchesModel", name := "merge", desc := "(I)I" } : Jvm.MethodName)) ∈ tbG := tbg 1118 (by decide +kernel) (by decide +kernel)
theorem tw1119 : (Jvm.Cond.selects "PlanBranchesModel" ({ cls := "PlanBranchesModel", name := "merge", desc := "(I)I" } : Jvm.MethodName) ({ cls := "PlanBranchesModel", name := "merge", desc := "(I)I" } : Jvm.MethodName)) ∈ tbG := tbg 1119 (by decide +kernel) (by decide +kernel)
theorem tw1120 : (Jvm.Cond.code ({ cls := "PlanBranchesModel", name := "merge", desc := "(I)I" } : Jvm.MethodName) prog_10_method_49_code (5 : Nat) (Option.some Jvm.ClassFile.FieldType.int)) ∈ tbG := tbg 1120 (by decide +kernel) (by decide +kernel)
theorem tw1121 : (Jvm.Cond.methodLink "PlanBranchesModel" (194 : Nat) ({ cls := "PlanBranchesModel", name := "becomes", desc := "(I)I" } : Jvm.MethodName)) ∈ tbG := tbg 1121 (by decide +kernel) (by decide +kernel)
theorem tw1123 : (Jvm.Cond.instanceMethod ({ cls := "PlanBranchesModel", name := "becomes", desc := "(I)I" } : Jvm.MethodName)) ∈ tbG := tbg 1123 (by decide +kernel) (by decide +kernel)
theorem tw1124 : (Jvm.Cond.code ({ cls := "PlanBranchesModel", name := "becomes", desc := "(I)I" } : Jvm.MethodName) prog_10_method_48_code (4 : Nat) (Option.some Jvm.ClassFile.FieldType.int)) ∈ tbG := tbg 1124 (by decide +kernel) (by decide +kernel)
theorem tw1125 : (Jvm.Cond.methodLink "PlanBranchesLaw" (185 : Nat) ({ cls := "PlanBranchesModel", name := "update", desc := "(I)I" } : Jvm.MethodName)) ∈ tbG := tbg 1125 (by decide +kernel) (by decide +kernel)
theorem tw1126 : (Jvm.Cond.instanceMethod ({ cls := "PlanBranchesModel", name := "update", desc := "(I)I" } : Jvm.MethodName)) ∈ tbG := tbg 1126 (by decide +kernel) (by decide +kernel)
theorem tw1127 : (Jvm.Cond.selects "PlanBranchesModel" ({ cls := "PlanBranchesModel", name := "update", desc := "(I)I" } : Jvm.MethodName) ({ cls := "PlanBranchesModel", name := "update", desc := "(I)I" } : Jvm.MethodName)) ∈ tbG := tbg 1127 (by decide +kernel) (by decide +kernel)
theorem tw1128 : (Jvm.Cond.code ({ cls := "PlanBranchesModel", name := "update", desc := "(I)I" } : Jvm.MethodName) prog_10_method_50_code (5 : Nat) (Option.some Jvm.ClassFile.FieldType.int)) ∈ tbG := tbg 1128 (by decide +kernel) (by decide +kernel)
theorem tw1129 : (Jvm.Cond.methodLink "PlanBranchesLaw" (188 : Nat) ({ cls := "PlanBranchesModel", name := "give", desc := "(II)I" } : Jvm.MethodName)) ∈ tbG := tbg 1129 (by decide +kernel) (by decide +kernel)
theorem tw1130 : (Jvm.Cond.instanceMethod ({ cls := "PlanBranchesModel", name := "give", desc := "(II)I" } : Jvm.MethodName)) ∈ tbG := tbg 1130 (by decide +kernel) (by decide +kernel)
theorem tw1131 : (Jvm.Cond.selects "PlanBranchesModel" ({ cls := "PlanBranchesModel", name := "give", desc := "(II)I" } : Jvm.MethodName) ({ cls := "PlanBranchesModel", name := "give", desc := "(II)I" } : Jvm.MethodName)) ∈ tbG := tbg 1131 (by decide +kernel) (by decide +kernel)
theorem tw1132 : (Jvm.Cond.code ({ cls := "PlanBranchesModel", name := "give", desc := "(II)I" } : Jvm.MethodName) prog_10_method_53_code (4 : Nat) (Option.some Jvm.ClassFile.FieldType.int)) ∈ tbG := tbg 1132 (by decide +kernel) (by decide +kernel)
theorem tw1133 : (Jvm.Cond.methodLink "PlanBranchesModel" (197 : Nat) ({ cls := "PlanBranchesModel", name := "isCrew", desc := "(I)Z" } : Jvm.MethodName)) ∈ tbG := tbg 1133 (by decide +kernel) (by decide +kernel)
theorem tw1134 : (Jvm.Cond.static ({ cls := "PlanBranchesModel", name := "isCrew", desc := "(I)Z" } : Jvm.MethodName)) ∈ tbG := tbg 1134 (by decide +kernel) (by decide +kernel)
theorem tw1135 : (Jvm.Cond.code ({ cls := "PlanBranchesModel", name := "isCrew", desc := "(I)Z" } : Jvm.MethodName) prog_10_method_51_code (1 : Nat) (Option.some Jvm.ClassFile.FieldType.boolean)) ∈ tbG := tbg 1135 (by decide +kernel) (by decide +kernel)
theorem tw1136 : (Jvm.Cond.methodLink "PlanBranchesLaw" (192 : Nat) ({ cls := "PlanBranchesModel", name := "lend", desc := "(IIII)I" } : Jvm.MethodName)) ∈ tbG := tbg 1136 (by decide +kernel) (by decide +kernel)
theorem tw1137 : (Jvm.Cond.instanceMethod ({ cls := "PlanBranchesModel", name := "lend", desc := "(IIII)I" } : Jvm.MethodName)) ∈ tbG := tbg 1137 (by decide +kernel) (by decide +kernel)
theorem tw1138 : (Jvm.Cond.selects "PlanBranchesModel" ({ cls := "PlanBranchesModel", name := "lend", desc := "(IIII)I" } : Jvm.MethodName) ({ cls := "PlanBranchesModel", name := "lend", desc := "(IIII)I" } : Jvm.MethodName)) ∈ tbG := tbg 1138 (by decide +kernel) (by decide +kernel)
theorem tw1139 : (Jvm.Cond.code ({ cls := "PlanBranchesModel", name := "lend", desc := "(IIII)I" } : Jvm.MethodName) prog_10_method_54_code (6 : Nat) (Option.some Jvm.ClassFile.FieldType.int)) ∈ tbG := tbg 1139 (by decide +kernel) (by decide +kernel)
theorem tw1140 : (Jvm.Cond.methodLink "PlanBranchesModel" (200 : Nat) ({ cls := "PlanBranchesModel", name := "isDay", desc := "(I)Z" } : Jvm.MethodName)) ∈ tbG := tbg 1140 (by decide +kernel) (by decide +kernel)
theorem tw1141 : (Jvm.Cond.static ({ cls := "PlanBranchesModel", name := "isDay", desc := "(I)Z" } : Jvm.MethodName)) ∈ tbG := tbg 1141 (by decide +kernel) (by decide +kernel)
theorem tw1142 : (Jvm.Cond.code ({ cls := "PlanBranchesModel", name := "isDay", desc := "(I)Z" } : Jvm.MethodName) prog_10_method_52_code (1 : Nat) (Option.some Jvm.ClassFile.FieldType.boolean)) ∈ tbG := tbg 1142 (by decide +kernel) (by decide +kernel)
theorem tw1143 : (Jvm.Cond.methodLink "PlanBranchesLaw" (195 : Nat) ({ cls := "PlanBranchesModel", name := "holder", desc := "(II)I" } : Jvm.MethodName)) ∈ tbG := tbg 1143 (by decide +kernel) (by decide +kernel)
theorem tw1144 : (Jvm.Cond.instanceMethod ({ cls := "PlanBranchesModel", name := "holder", desc := "(II)I" } : Jvm.MethodName)) ∈ tbG := tbg 1144 (by decide +kernel) (by decide +kernel)
theorem tw1145 : (Jvm.Cond.selects "PlanBranchesModel" ({ cls := "PlanBranchesModel", name := "holder", desc := "(II)I" } : Jvm.MethodName) ({ cls := "PlanBranchesModel", name := "holder", desc := "(II)I" } : Jvm.MethodName)) ∈ tbG := tbg 1145 (by decide +kernel) (by decide +kernel)
theorem tw1146 : (Jvm.Cond.code ({ cls := "PlanBranchesModel", name := "holder", desc := "(II)I" } : Jvm.MethodName) prog_10_method_56_code (3 : Nat) (Option.some Jvm.ClassFile.FieldType.int)) ∈ tbG := tbg 1146 (by decide +kernel) (by decide +kernel)
theorem tw1147 : (Jvm.Cond.methodLink "PlanBranchesLaw" (198 : Nat) ({ cls := "PlanBranchesModel", name := "tail", desc := "(II)I" } : Jvm.MethodName)) ∈ tbG := tbg 1147 (by decide +kernel) (by decide +kernel)
theorem tw1148 : (Jvm.Cond.instanceMethod ({ cls := "PlanBranchesModel", name := "tail", desc := "(II)I" } : Jvm.MethodName)) ∈ tbG := tbg 1148 (by decide +kernel) (by decide +kernel)
theorem tw1149 : (Jvm.Cond.selects "PlanBranchesModel" ({ cls := "PlanBranchesModel", name := "tail", desc := "(II)I" } : Jvm.MethodName) ({ cls := "PlanBranchesModel", name := "tail", desc := "(II)I" } : Jvm.MethodName)) ∈ tbG := tbg 1149 (by decide +kernel) (by decide +kernel)
theorem tw1150 : (Jvm.Cond.code ({ cls := "PlanBranchesModel", name := "tail", desc := "(II)I" } : Jvm.MethodName) prog_10_method_58_code (4 : Nat) (Option.some Jvm.ClassFile.FieldType.int)) ∈ tbG := tbg 1150 (by decide +kernel) (by decide +kernel)
theorem tw1151 : (Jvm.Cond.methodLink "PlanBranchesLaw" (201 : Nat) ({ cls := "PlanBranchesModel", name := "slack", desc := "(II)I" } : Jvm.MethodName)) ∈ tbG := tbg 1151 (by decide +kernel) (by decide +kernel)
theorem tw1152 : (Jvm.Cond.instanceMethod ({ cls := "PlanBranchesModel", name := "slack", desc := "(II)I" } : Jvm.MethodName)) ∈ tbG := tbg 1152 (by decide +kernel) (by decide +kernel)
theorem tw1153 : (Jvm.Cond.selects "PlanBranchesModel" ({ cls := "PlanBranchesModel", name := "slack", desc := "(II)I" } : Jvm.MethodName) ({ cls := "PlanBranchesModel", name := "slack", desc := "(II)I" } : Jvm.MethodName)) ∈ tbG := tbg 1153 (by decide +kernel) (by decide +kernel)
theorem tw1154 : (Jvm.Cond.code ({ cls := "PlanBranchesModel", name := "slack", desc := "(II)I" } : Jvm.MethodName) prog_10_method_59_code (4 : Nat) (Option.some Jvm.ClassFile.FieldType.int)) ∈ tbG := tbg 1154 (by decide +kernel) (by decide +kernel)
theorem tw1155 : (Jvm.Cond.methodLink "PlanBranchesLaw" (204 : Nat) ({ cls := "PlanBranchesModel", name := "critical", desc := "(I)I" } : Jvm.MethodName)) ∈ tbG := tbg 1155 (by decide +kernel) (by decide +kernel)
theorem tw1156 : (Jvm.Cond.instanceMethod ({ cls := "PlanBranchesModel", name := "critical", desc := "(I)I" } : Jvm.MethodName)) ∈ tbG := tbg 1156 (by decide +kernel) (by decide +kernel)
theorem tw1157 : (Jvm.Cond.selects "PlanBranchesModel" ({ cls := "PlanBranchesModel", name := "critical", desc := "(I)I" } : Jvm.MethodName) ({ cls := "PlanBranchesModel", name := "critical", desc := "(I)I" } : Jvm.MethodName)) ∈ tbG := tbg 1157 (by decide +kernel) (by decide +kernel)
theorem tw1158 : (Jvm.Cond.code ({ cls := "PlanBranchesModel", name := "critical", desc := "(I)I" } : Jvm.MethodName) prog_10_method_60_code (5 : Nat) (Option.some Jvm.ClassFile.FieldType.int)) ∈ tbG := tbg 1158 (by decide +kernel) (by decide +kernel)
theorem tw1159 : (Jvm.Cond.methodLink "PlanBranchesLaw" (207 : Nat) ({ cls := "PlanBranchesModel", name := "way", desc := "(I)I" } : Jvm.MethodName)) ∈ tbG := tbg 1159 (by decide +kernel) (by decide +kernel)
theorem tw1160 : (Jvm.Cond.instanceMethod ({ cls := "PlanBranchesModel", name := "way", desc := "(I)I" } : Jvm.MethodName)) ∈ tbG := tbg 1160 (by decide +kernel) (by decide +kernel)
theorem tw1161 : (Jvm.Cond.selects "PlanBranchesModel" ({ cls := "PlanBranchesModel", name := "way", desc := "(I)I" } : Jvm.MethodName) ({ cls := "PlanBranchesModel", name := "way", desc := "(I)I" } : Jvm.MethodName)) ∈ tbG := tbg 1161 (by decide +kernel) (by decide +kernel)
theorem tw1162 : (Jvm.Cond.code ({ cls := "PlanBranchesModel", name := "way", desc := "(I)I" } : Jvm.MethodName) prog_10_method_61_code (2 : Nat) (Option.some Jvm.ClassFile.FieldType.int)) ∈ tbG := tbg 1162 (by decide +kernel) (by decide +kernel)
theorem tw1163 : (Jvm.Cond.methodLink "PlanBranchesLaw" (210 : Nat) ({ cls := "PlanBranchesModel", name := "firstDay", desc := "(II)I" } : Jvm.MethodName)) ∈ tbG := tbg 1163 (by decide +kernel) (by decide +kernel)
theorem tw1164 : (Jvm.Cond.instanceMethod ({ cls := "PlanBranchesModel", name := "firstDay", desc := "(II)I" } : Jvm.MethodName)) ∈ tbG := tbg 1164 (by decide +kernel) (by decide +kernel)
theorem tw1165 : (Jvm.Cond.selects "PlanBranchesModel" ({ cls := "PlanBranchesModel", name := "firstDay", desc := "(II)I" } : Jvm.MethodName) ({ cls := "PlanBranchesModel", name := "firstDay", desc := "(II)I" } : Jvm.MethodName)) ∈ tbG := tbg 1165 (by decide +kernel) (by decide +kernel)
theorem tw1166 : (Jvm.Cond.code ({ cls := "PlanBranchesModel", name := "firstDay", desc := "(II)I" } : Jvm.MethodName) prog_10_method_67_code (4 : Nat) (Option.some Jvm.ClassFile.FieldType.int)) ∈ tbG := tbg 1166 (by decide +kernel) (by decide +kernel)
theorem tw1167 : (Jvm.Cond.methodLink "PlanBranchesLaw" (213 : Nat) ({ cls := "PlanBranchesModel", name := "leftOut", desc := "(I)I" } : Jvm.MethodName)) ∈ tbG := tbg 1167 (by decide +kernel) (by decide +kernel)
theorem tw1168 : (Jvm.Cond.instanceMethod ({ cls := "PlanBranchesModel", name := "leftOut", desc := "(I)I" } : Jvm.MethodName)) ∈ tbG := tbg 1168 (by decide +kernel) (by decide +kernel)
theorem tw1169 : (Jvm.Cond.selects "PlanBranchesModel" ({ cls := "PlanBranchesModel", name := "leftOut", desc := "(I)I" } : Jvm.MethodName) ({ cls := "PlanBranchesModel", name := "leftOut", desc := "(I)I" } : Jvm.MethodName)) ∈ tbG := tbg 1169 (by decide +kernel) (by decide +kernel)
theorem tw1170 : (Jvm.Cond.code ({ cls := "PlanBranchesModel", name := "leftOut", desc := "(I)I" } : Jvm.MethodName) prog_10_method_68_code (2 : Nat) (Option.some Jvm.ClassFile.FieldType.int)) ∈ tbG := tbg 1170 (by decide +kernel) (by decide +kernel)
theorem tw1171 : (Jvm.Cond.methodLink "PlanBranchesLaw" (216 : Nat) ({ cls := "PlanBranchesModel", name := "lastDay", desc := "(I)I" } : Jvm.MethodName)) ∈ tbG := tbg 1171 (by decide +kernel) (by decide +kernel)
theorem tw1172 : (Jvm.Cond.instanceMethod ({ cls := "PlanBranchesModel", name := "lastDay", desc := "(I)I" } : Jvm.MethodName)) ∈ tbG := tbg 1172 (by decide +kernel) (by decide +kernel)
theorem tw1173 : (Jvm.Cond.selects "PlanBranchesModel" ({ cls := "PlanBranchesModel", name := "lastDay", desc := "(I)I" } : Jvm.MethodName) ({ cls := "PlanBranchesModel", name := "lastDay", desc := "(I)I" } : Jvm.MethodName)) ∈ tbG := tbg 1173 (by decide +kernel) (by decide +kernel)
theorem tw1174 : (Jvm.Cond.code ({ cls := "PlanBranchesModel", name := "lastDay", desc := "(I)I" } : Jvm.MethodName) prog_10_method_70_code (3 : Nat) (Option.some Jvm.ClassFile.FieldType.int)) ∈ tbG := tbg 1174 (by decide +kernel) (by decide +kernel)
theorem tw1175 : (Jvm.Cond.methodLink "PlanBranchesModel" (224 : Nat) ({ cls := "PlanBranchesModel", name := "last", desc := "(I)I" } : Jvm.MethodName)) ∈ tbG := tbg 1175 (by decide +kernel) (by decide +kernel)
theorem tw1177 : (Jvm.Cond.instanceMethod ({ cls := "PlanBranchesModel", name := "last", desc := "(I)I" } : Jvm.MethodName)) ∈ tbG := tbg 1177 (by decide +kernel) (by decide +kernel)
theorem tw1178 : (Jvm.Cond.code ({ cls := "PlanBranchesModel", name := "last", desc := "(I)I" } : Jvm.MethodName) prog_10_method_69_code (5 : Nat) (Option.some Jvm.ClassFile.FieldType.int)) ∈ tbG := tbg 1178 (by decide +kernel) (by decide +kernel)
theorem tw1179 : (Jvm.Cond.methodLink "PlanBranchesLaw" (219 : Nat) ({ cls := "PlanBranchesModel", name := "lastDayByAll", desc := "(I)I" } : Jvm.MethodName)) ∈ tbG := tbg 1179 (by decide +kernel) (by decide +kernel)
theorem tw1180 : (Jvm.Cond.instanceMethod ({ cls := "PlanBranchesModel", name := "lastDayByAll", desc := "(I)I" } : Jvm.MethodName)) ∈ tbG := tbg 1180 (by decide +kernel) (by decide +kernel)
theorem tw1181 : (Jvm.Cond.selects "PlanBranchesModel" ({ cls := "PlanBranchesModel", name := "lastDayByAll", desc := "(I)I" } : Jvm.MethodName) ({ cls := "PlanBranchesModel", name := "lastDayByAll", desc := "(I)I" } : Jvm.MethodName)) ∈ tbG := tbg 1181 (by decide +kernel) (by decide +kernel)
theorem tw1182 : (Jvm.Cond.code ({ cls := "PlanBranchesModel", name := "lastDayByAll", desc := "(I)I" } : Jvm.MethodName) prog_10_method_74_code (7 : Nat) (Option.some Jvm.ClassFile.FieldType.int)) ∈ tbG := tbg 1182 (by decide +kernel) (by decide +kernel)
theorem tw1183 : (Jvm.Cond.methodLink "PlanBranchesModel" (227 : Nat) ({ cls := "PlanBranchesModel", name := "count", desc := "(I)I" } : Jvm.MethodName)) ∈ tbG := tbg 1183 (by decide +kernel) (by decide +kernel)
theorem tw1184 : (Jvm.Cond.static ({ cls := "PlanBranchesModel", name := "count", desc := "(I)I" } : Jvm.MethodName)) ∈ tbG := tbg 1184 (by decide +kernel) (by decide +kernel)
theorem tw1185 : (Jvm.Cond.code ({ cls := "PlanBranchesModel", name := "count", desc := "(I)I" } : Jvm.MethodName) prog_10_method_71_code (3 : Nat) (Option.some Jvm.ClassFile.FieldType.int)) ∈ tbG := tbg 1185 (by decide +kernel) (by decide +kernel)
theorem tw1186 : (Jvm.Cond.methodLink "PlanBranchesModel" (230 : Nat) ({ cls := "PlanBranchesModel", name := "byOrder", desc := "(II)I" } : Jvm.MethodName)) ∈ tbG := tbg 1186 (by decide +kernel) (by decide +kernel)
theorem tw1188 : (Jvm.Cond.instanceMethod ({ cls := "PlanBranchesModel", name := "byOrder", desc := "(II)I" } : Jvm.MethodName)) ∈ tbG := tbg 1188 (by decide +kernel) (by decide +kernel)
theorem tw1189 : (Jvm.Cond.code ({ cls := "PlanBranchesModel", name := "byOrder", desc := "(II)I" } : Jvm.MethodName) prog_10_method_72_code (4 : Nat) (Option.some Jvm.ClassFile.FieldType.int)) ∈ tbG := tbg 1189 (by decide +kernel) (by decide +kernel)
theorem tw1190 : (Jvm.Cond.methodLink "PlanBranchesModel" (233 : Nat) ({ cls := "PlanBranchesModel", name := "turns", desc := "(I)Z" } : Jvm.MethodName)) ∈ tbG := tbg 1190 (by decide +kernel) (by decide +kernel)
theorem tw1192 : (Jvm.Cond.instanceMethod ({ cls := "PlanBranchesModel", name := "turns", desc := "(I)Z" } : Jvm.MethodName)) ∈ tbG := tbg 1192 (by decide +kernel) (by decide +kernel)
theorem tw1193 : (Jvm.Cond.code ({ cls := "PlanBranchesModel", name := "turns", desc := "(I)Z" } : Jvm.MethodName) prog_10_method_73_code (7 : Nat) (Option.some Jvm.ClassFile.FieldType.boolean)) ∈ tbG := tbg 1193 (by decide +kernel) (by decide +kernel)
theorem tw1194 : (Jvm.Cond.methodLink "PlanBranchesLaw" (222 : Nat) ({ cls := "PlanBranchesModel", name := "taskOn", desc := "(III)I" } : Jvm.MethodName)) ∈ tbG := tbg 1194 (by decide +kernel) (by decide +kernel)
theorem tw1195 : (Jvm.Cond.instanceMethod ({ cls := "PlanBranchesModel", name := "taskOn", desc := "(III)I" } : Jvm.MethodName)) ∈ tbG := tbg 1195 (by decide +kernel) (by decide +kernel)
theorem tw1196 : (Jvm.Cond.selects "PlanBranchesModel" ({ cls := "PlanBranchesModel", name := "taskOn", desc := "(III)I" } : Jvm.MethodName) ({ cls := "PlanBranchesModel", name := "taskOn", desc := "(III)I" } : Jvm.MethodName)) ∈ tbG := tbg 1196 (by decide +kernel) (by decide +kernel)
theorem tw1197 : (Jvm.Cond.code ({ cls := "PlanBranchesModel", name := "taskOn", desc := "(III)I" } : Jvm.MethodName) prog_10_method_75_code (5 : Nat) (Option.some Jvm.ClassFile.FieldType.int)) ∈ tbG := tbg 1197 (by decide +kernel) (by decide +kernel)
theorem tw1198 : (Jvm.Cond.arrayClass Jvm.ClassFile.FieldType.long) ∈ tbG := tbg 1198 (by decide +kernel) (by decide +kernel)
end
section
/-! The frame of all walks here: one memory for class and reference: sz cells; sk: what each address is (tag, length);
    rf: the references that it holds; sg: the ints. Tags: 1 int[], 2 boolean[], 3 long[], 4 Branch[], 5 int[][], 6 + c an object of the class c of vwCl. -/
def pb_C : Nat → String := fun c => match c with
  | 0 => RX0
  | 1 => RX1
  | 2 => RX2
  | 3 => RX3
  | 4 => RX4
  | 5 => RX5
  | 6 => RX6
  | 7 => RX7
  | _ => RX8
def pb_T : Nat → u_T := fun c => match c with
  | 0 => TX0
  | 1 => TX1
  | 2 => TX2
  | 3 => TX3
  | 4 => TX4
  | 5 => TX5
  | 6 => TX6
  | 7 => TX7
  | _ => TX8
def pb_N : Nat → Nat := fun c => match c with
  | 0 => 7
  | 1 => 3
  | 2 => 7
  | 3 => 3
  | 4 => 4
  | 5 => 3
  | 6 => 3
  | 7 => 7
  | _ => 28
def pb_ty : Nat → Nat → FieldType := fun c => match c with
  | 0 => tyX0
  | 1 => tyX1
  | 2 => tyX2
  | 3 => tyX3
  | 4 => tyX4
  | 5 => tyX5
  | 6 => tyX6
  | 7 => tyX7
  | _ => tyX8
theorem pb_c9 {P : Nat → Prop} (h0 : P 0) (h1 : P 1) (h2 : P 2) (h3 : P 3) (h4 : P 4) (h5 : P 5) (h6 : P 6) (h7 : P 7) (h8 : P 8) {c : Nat} (h : c < 9) : P c := by
  match c, h with
  | 0, _ => exact h0
  | 1, _ => exact h1
  | 2, _ => exact h2
  | 3, _ => exact h3
  | 4, _ => exact h4
  | 5, _ => exact h5
  | 6, _ => exact h6
  | 7, _ => exact h7
  | 8, _ => exact h8
theorem pb_cl {c : Nat} (h : c < 9) : vwCl[c]? = some (pb_C c, pb_T c, pb_N c) := pb_c9 (P := fun c => vwCl[c]? = some (pb_C c, pb_T c, pb_N c)) rfl rfl rfl rfl rfl rfl rfl rfl rfl h
theorem pb_nm {c : Nat} (h : c < 9) : ∀ a, a < pb_N c → ∀ b, b < pb_N c → a ≠ b → (pb_T c a).2.1 ≠ (pb_T c b).2.1 := pb_c9 (P := fun c => ∀ a, a < pb_N c → ∀ b, b < pb_N c → a ≠ b → (pb_T c a).2.1 ≠ (pb_T c b).2.1) nmX0 nmX1 nmX2 nmX3 nmX4 nmX5 nmX6 nmX7 nmX8 h
theorem pb_tok {c : Nat} (h : c < 9) : ∀ k, k < pb_N c → parseFieldDescriptor (pb_T c k).2.2.1 = some (pb_ty c k) := pb_c9 (P := fun c => ∀ k, k < pb_N c → parseFieldDescriptor (pb_T c k).2.2.1 = some (pb_ty c k)) tyX0_ok tyX1_ok tyX2_ok tyX3_ok tyX4_ok tyX5_ok tyX6_ok tyX7_ok tyX8_ok h
theorem pb_lay {c : Nat} (h : c < 9) : ∀ w ∈ u_ws (pb_C c) (pb_T c) (pb_N c), w ∈ tbG := pb_c9 (P := fun c => ∀ w ∈ u_ws (pb_C c) (pb_T c) (pb_N c), w ∈ tbG) (by decide +kernel) (by decide +kernel) (by decide +kernel) (by decide +kernel) (by decide +kernel) (by decide +kernel) (by decide +kernel) (by decide +kernel) (by decide +kernel) h
def pb_isI (t : FieldType) : Bool := match t with
  | .int => true
  | _ => false
def pb_V (c : Nat) (r : Nat → Option Nat) (f : Nat → Int32) (k : Nat) : Value := if pb_isI (pb_ty c k) = true then .int (f k) else va_rf (r k)
def pb_cell (D : va_G) (cA : Nat → ClassId) (kd : Nat × Nat) (r : Nat → Option Nat) (f : Nat → Int32) (a : Nat) (H : Heap) : Prop := match kd.1 with
  | 0 => True
  | 1 => H[a]? = some (arrV (cA 1) kd.2 (fun j => .int (f j)))
  | 2 => H[a]? = some (arrV (cA 2) kd.2 (fun j => .int (f j)))
  | 3 => H[a]? = some (arrV (cA 3) kd.2 (fun j => .long (f j).toInt64))
  | 4 => H[a]? = some (arrV (cA 4) kd.2 (fun j => va_rf (r j)))
  | 5 => H[a]? = some (arrV (cA 5) kd.2 (fun j => va_rf (r j)))
  | c + 6 => t_OB a (D.1 c) (pb_N c) (D.2 c) H (pb_V c r f)
theorem pb_cell.kept {D : va_G} {cA : Nat → ClassId} {kd : Nat × Nat} {r : Nat → Option Nat} {f : Nat → Int32} {a : Nat} {H H1 : Heap} (h : pb_cell D cA kd r f a H) (e : H1[a]? = H[a]?) : pb_cell D cA kd r f a H1 := by
  obtain ⟨t, n⟩ := kd
  match t, h with
  | 0, _ => exact True.intro
  | 1, h => exact e.trans h
  | 2, h => exact e.trans h
  | 3, h => exact e.trans h
  | 4, h => exact e.trans h
  | 5, h => exact e.trans h
  | c + 6, h => exact t_OB.kept h e
theorem pb_cell.lt {D : va_G} {cA : Nat → ClassId} {kd : Nat × Nat} {r : Nat → Option Nat} {f : Nat → Int32} {a : Nat} {H : Heap} (h : pb_cell D cA kd r f a H) (h0 : kd.1 ≠ 0) : a < H.size := by
  obtain ⟨t, n⟩ := kd
  match t, h with
  | 0, _ => exact absurd rfl h0
  | 1, h => exact (Array.getElem?_eq_some_iff.mp h).1
  | 2, h => exact (Array.getElem?_eq_some_iff.mp h).1
  | 3, h => exact (Array.getElem?_eq_some_iff.mp h).1
  | 4, h => exact (Array.getElem?_eq_some_iff.mp h).1
  | 5, h => exact (Array.getElem?_eq_some_iff.mp h).1
  | c + 6, h => obtain ⟨cell, h2, -⟩ := h; exact (Array.getElem?_eq_some_iff.mp h2).1
abbrev pb_Sk : Type := Nat → Nat × Nat
abbrev pb_Rf : Type := Nat → Nat → Option Nat
abbrev pb_Sg : Type := Nat → Nat → Int32
/-- a write of an int, of a reference, of a kind -/
def pb_up (sg : pb_Sg) (a k : Nat) (x : Int32) : pb_Sg := fun b => if b = a then upd (sg a) k x else sg b
def pb_ur (rf : pb_Rf) (a k : Nat) (x : Option Nat) : pb_Rf := fun b => if b = a then va_up (rf a) k x else rf b
def pb_uk (sk : pb_Sk) (a : Nat) (x : Nat × Nat) : pb_Sk := fun b => if b = a then x else sk b
def pb_u0 {α : Type} (f : Nat → Nat → α) (a : Nat) (v : α) : Nat → Nat → α := fun b => if b = a then fun _ => v else f b
/-- class numbers, array classes, the first address that is ours -/
abbrev pb_G : Type := va_G × (Nat → ClassId) × Nat
def pb_rep (G : pb_G) (sz : Nat) (sk : pb_Sk) (rf : pb_Rf) (sg : pb_Sg) (H : Heap) : Prop := H.size = sz ∧ ∀ a : Nat, (sk a).1 ≠ 0 → G.2.2 ≤ a ∧ pb_cell G.1 G.2.1 (sk a) (rf a) (sg a) a H
abbrev pb_own (G : pb_G) : Nat → Prop := fun q => G.2.2 ≤ q
def pb_tys (cA : Nat → ClassId) : List (ClassId × FieldType) := [(cA 1, .int), (cA 2, .boolean), (cA 3, .long), (cA 4, .object RX0), (cA 5, .array .int)]
def pb_strs : List (String × Nat × String) := [("PlanBranches", 269, "there is no such branch"), ("PlanBranches", 272, "an argument is out of range"), ("PlanBranches", 95, "the task is not there"), ("PlanBranches", 104, "another task needs it"), ("PlanBranches", 114, "a task cannot need itself"), ("PlanBranches", 117, "one of the tasks is not there"), ("PlanBranches", 126, "a task would need itself"), ("PlanBranches", 131, "no change can be undone"), ("PlanBranches", 146, "no more branches can be begun"), ("PlanBranches", 168, "the branch 0 has no parent"), ("PlanBranches", 191, "there is a reason against merging"), ("PlanBranches", 201, "there is a reason against bringing it up to date"), ("PlanBranches", 209, "there are as many loans as can be"), ("PlanBranches", 249, "there are too many tasks for all orders")]
def pb_ncs : List (String × String) := [("java/lang/IllegalArgumentException", "java/lang/IndexOutOfBoundsException"), ("java/lang/IllegalStateException", "java/lang/IndexOutOfBoundsException"), ("java/lang/IllegalStateException", "java/lang/IllegalArgumentException")]
def pb_AOI (U : State) : Prop := (Cond.arrayOver (.array .int)).before #[] U = true
theorem pb_AOI.moved {u U : State} (hvm : u.vm.Alike U.vm) (h : pb_AOI u) : pb_AOI U := by
  show (Cond.arrayOver (.array .int)).before #[] (u.setVm U.vm) = true
  rw [Cond.arrayOver_setVmC hvm]
  exact h
def pb_K (G : pb_G) (s : State) : Prop := va_K G.1 vwCl (pb_tys G.2.1) s ∧ vx_Zq Bundle.tN "UNASSIGNED_STACK" Bundle.steD (pb_own G) s s.heap ∧ vx_Zq Bundle.tN "SUPPRESSED_SENTINEL" Bundle.listD (pb_own G) s s.heap ∧ (∀ w ∈ tbX, va_Nw w s) ∧ (∀ q ∈ pb_strs, ∃ sa, vk_R q.1 q.2.1 q.2.2 sa s) ∧ (∀ q ∈ pb_ncs, va_Nc q.1 q.2 s) ∧ va_AO RX0 s ∧ pb_AOI s
/-- a method: name, bytes, locals, answer, handlers -/
abbrev pb_M : Type := MethodName × ByteArray × Nat × Option FieldType × List (Nat × Nat × Nat × Nat)
def pb_code (μ : pb_M) : Cond := match μ.2.2.2.2 with
  | [] => .code μ.1 μ.2.1 μ.2.2.1 μ.2.2.2.1
  | hh => .codeWith μ.1 μ.2.1 μ.2.2.1 μ.2.2.2.1 hh
abbrev pb_F : Type := (Program × Launch × Env × Room × State × MethodId × Array Value × List Frame × Method × Code) × (State → Prop) × pb_G
abbrev pb_p (F : pb_F) : Program := F.1.1
abbrev pb_l (F : pb_F) : Launch := F.1.2.1
abbrev pb_e (F : pb_F) : Env := F.1.2.2.1
abbrev pb_rm (F : pb_F) : Room := F.1.2.2.2.1
abbrev pb_s (F : pb_F) : State := F.1.2.2.2.2.1
abbrev pb_m (F : pb_F) : MethodId := F.1.2.2.2.2.2.1
abbrev pb_args (F : pb_F) : Array Value := F.1.2.2.2.2.2.2.1
abbrev pb_below (F : pb_F) : List Frame := F.1.2.2.2.2.2.2.2.1
abbrev pb_meth (F : pb_F) : Method := F.1.2.2.2.2.2.2.2.2.1
abbrev pb_c (F : pb_F) : Code := F.1.2.2.2.2.2.2.2.2.2
abbrev pb_Q (F : pb_F) : State → Prop := F.2.1
abbrev pb_g (F : pb_F) : pb_G := F.2.2
abbrev pb_W (F : pb_F) (H : Heap) (locs : List Loc) (cells slots : Nat) (g : JFrame) : Prop := W (pb_p F) (pb_l F) (pb_e F) (pb_rm F) (pb_s F) (pb_m F) (pb_args F) (pb_below F) (pb_meth F) (pb_c F) H locs cells slots (pb_Q F) g
/-- what stands fast while a method runs -/
def pb_Fx (F : pb_F) (μ : pb_M) (d k n : Nat) : Prop :=
  (pb_p F).tables.exec = Jvm.exec ∧ (pb_c F).code = μ.2.1 ∧ (pb_meth F).sig.returnType = μ.2.2.2.1 ∧ (pb_c F).maxLocals = μ.2.2.1 ∧ (pb_s F).vm.findClass μ.1.cls = some (pb_m F).cls ∧ (∀ w ∈ tbG, w.before (pb_args F) (pb_s F) = true) ∧
  (pb_meth F).locks = false ∧ (pb_meth F).name = μ.1.name ∧ (pb_c F).exceptionTable.toList = tableOf μ.2.2.2.2 ∧ (pb_l F).stackTraces = false ∧ pb_K (pb_g F) (pb_s F) ∧ (pb_g F).2.2 ≤ (pb_s F).heap.size ∧
  (d ≤ (pb_rm F).frames ∧ 100 * d ≤ (pb_rm F).locals ∧ k ≤ (pb_rm F).cells ∧ n ≤ (pb_rm F).slots)
/-- locals, by number -/
def pb_L (ls : Array Slot) (L : List (Option Value)) : Prop := ls.size = L.length ∧ lv_wf ls ∧ ∀ (i : Nat) (v : Value), L[i]? = some (some v) → ls[i]? = some (.val v) ∧ v.category = 1
/-- THE JUDGEMENT: from here the machine comes to an end that is wanted -/
def pv (F : pb_F) (cells slots sz : Nat) (sk : pb_Sk) (rf : pb_Rf) (sg : pb_Sg) (pc : Nat) (L : List (Option Value)) (st : List Value) : Prop :=
  ∀ (H : Heap) (ls : Array Slot) (locs : List Loc), pb_rep (pb_g F) sz sk rf sg H → pb_L ls L → va_S (pb_own (pb_g F)) (pb_s F).heap H locs → pb_W F H locs cells slots (F0 (pb_m F) pc ls st)
/-- the same, an exception of the class E in flight -/
def px (F : pb_F) (cells slots sz : Nat) (sk : pb_Sk) (rf : pb_Rf) (sg : pb_Sg) (pc : Nat) (L : List (Option Value)) (E : String) : Prop :=
  ∀ (H : Heap) (ls : Array Slot) (locs : List Loc) (q : Addr) (ce : Cell) (rest : List Value), pb_rep (pb_g F) sz sk rf sg H → pb_L ls L → va_S (pb_own (pb_g F)) (pb_s F).heap H locs → H[q]? = some ce → ce.vm = .none → (pb_s F).vm.findClass E = some ce.cls →
    vx_W (pb_p F) (pb_l F) (pb_e F) (pb_rm F) (pb_s F) (pb_m F) (pb_args F) (pb_below F) (pb_meth F) (pb_c F) H locs cells slots (pb_Q F) (F0 (pb_m F) pc ls rest) q
abbrev pb_R : Type := Option Value ⊕ String
abbrev pb_Post : Type := pb_R → Nat → pb_Sk → pb_Rf → pb_Sg → Prop
def pb_Pc (G : pb_G) (av : List Value) (sz : Nat) (sk : pb_Sk) (rf : pb_Rf) (sg : pb_Sg) : Array Value → State → Prop := fun v U => v = av.toArray ∧ pb_K G U ∧ pb_rep G sz sk rf sg U.heap ∧ G.2.2 ≤ U.heap.size
def pb_Qc (G : pb_G) (post : pb_Post) : Array Value → State → Outcome → State → Prop := fun _ st o t => (∃ v sz sk rf sg, o = .returned v ∧ post (.inl v) sz sk rf sg ∧ pb_rep G sz sk rf sg t.heap) ∧ va_F (pb_own G) st t
def pb_XC (G : pb_G) (post : pb_Post) : String → State → State → Prop := fun E st t => (∃ sz sk rf sg, post (.inr E) sz sk rf sg ∧ pb_rep G sz sk rf sg t.heap) ∧ va_F (pb_own G) st t
def pb_room (d k n : Nat) : Room := { frames := d, cells := k, slots := n, locals := 100 * d }
/-- A CONTRACT: called with av in this memory, the method ends as post says -/
def pb_Met (l : Launch) (μ : pb_M) (d k n : Nat) (av : List Value) (sz : Nat) (sk : pb_Sk) (rf : pb_Rf) (sg : pb_Sg) (post : pb_Post) : Prop :=
  ∀ G : pb_G, vx_Met l μ.1 (pb_code μ :: tbG) (pb_room d k n) (pb_Pc G av sz sk rf sg) (pb_Qc G post) (pb_XC G post) k n (pb_own G)
def pb_Fq (F : pb_F) (k n : Nat) (post : pb_Post) : Prop := pb_Q F = vx_MQ (pb_below F) (pb_Qc (pb_g F) post) (pb_XC (pb_g F) post) (pb_args F) (pb_s F) k n (pb_own (pb_g F))
end
section
theorem pb_up_eq {sg : pb_Sg} {a k : Nat} {x : Int32} : pb_up sg a k x a = upd (sg a) k x := if_pos rfl
theorem pb_up_ne {sg : pb_Sg} {a k b : Nat} {x : Int32} (h : b ≠ a) : pb_up sg a k x b = sg b := if_neg h
theorem pb_ur_eq {rf : pb_Rf} {a k : Nat} {x : Option Nat} : pb_ur rf a k x a = va_up (rf a) k x := if_pos rfl
theorem pb_ur_ne {rf : pb_Rf} {a k b : Nat} {x : Option Nat} (h : b ≠ a) : pb_ur rf a k x b = rf b := if_neg h
theorem pb_uk_eq {sk : pb_Sk} {a : Nat} {x : Nat × Nat} : pb_uk sk a x a = x := if_pos rfl
theorem pb_uk_ne {sk : pb_Sk} {a b : Nat} {x : Nat × Nat} (h : b ≠ a) : pb_uk sk a x b = sk b := if_neg h
theorem pb_u0_eq {α : Type} {f : Nat → Nat → α} {a : Nat} {v : α} : pb_u0 f a v a = fun _ => v := if_pos rfl
theorem pb_u0_ne {α : Type} {f : Nat → Nat → α} {a b : Nat} {v : α} (h : b ≠ a) : pb_u0 f a v b = f b := if_neg h
theorem pb_rep.set {G : pb_G} {sz : Nat} {sk : pb_Sk} {rf rf' : pb_Rf} {sg sg' : pb_Sg} {H H1 : Heap} (h : pb_rep G sz sk rf sg H) (a : Nat) (hr : ∀ b, b ≠ a → rf' b = rf b) (hs : ∀ b, b ≠ a → sg' b = sg b) (hc : pb_cell G.1 G.2.1 (sk a) (rf' a) (sg' a) a H1) (z : H1.size = H.size) (oq : ∀ q, q ≠ a → H1[q]? = H[q]?) : pb_rep G sz sk rf' sg' H1 := by
  refine ⟨z.trans h.1, fun b hb => ?_⟩
  by_cases e : b = a
  · subst e
    exact ⟨(h.2 b hb).1, hc⟩
  · refine ⟨(h.2 b hb).1, ?_⟩
    rw [hr b e, hs b e]
    exact (h.2 b hb).2.kept (oq b e)
theorem pb_rep.free {G : pb_G} {sz : Nat} {sk : pb_Sk} {rf : pb_Rf} {sg : pb_Sg} {H : Heap} (h : pb_rep G sz sk rf sg H) {a : Nat} (ha : sz ≤ a) : (sk a).1 = 0 := by
  by_cases e : (sk a).1 = 0
  · exact e
  · have := (h.2 a e).2.lt e
    have := h.1
    omega
theorem pb_rep.push {G : pb_G} {sz : Nat} {sk : pb_Sk} {rf : pb_Rf} {sg : pb_Sg} {H H1 : Heap} (h : pb_rep G sz sk rf sg H) {kd : Nat × Nat} {rf' : pb_Rf} {sg' : pb_Sg} (hr : ∀ b, b ≠ sz → rf' b = rf b) (hs : ∀ b, b ≠ sz → sg' b = sg b) (hg : G.2.2 ≤ H.size) (hc : pb_cell G.1 G.2.1 kd (rf' sz) (sg' sz) sz H1) (z : H1.size = H.size + 1) (oq : ∀ q, q < H.size → H1[q]? = H[q]?) : pb_rep G (sz + 1) (pb_uk sk sz kd) rf' sg' H1 := by
  refine ⟨by rw [z, h.1], fun b hb => ?_⟩
  by_cases e : b = sz
  · subst e
    rw [pb_uk_eq]
    exact ⟨by rw [← h.1]; exact hg, hc⟩
  · rw [pb_uk_ne e] at hb ⊢
    refine ⟨(h.2 b hb).1, ?_⟩
    rw [hr b e, hs b e]
    exact (h.2 b hb).2.kept (oq b ((h.2 b hb).2.lt hb))
theorem pb_rep.same {G : pb_G} {sz : Nat} {sk : pb_Sk} {rf : pb_Rf} {sg : pb_Sg} {H H1 : Heap} (h : pb_rep G sz sk rf sg H) (z : H.size ≤ H1.size) (oq : ∀ q, q < H.size → H1[q]? = H[q]?) : pb_rep G H1.size sk rf sg H1 :=
  ⟨rfl, fun b hb => ⟨(h.2 b hb).1, (h.2 b hb).2.kept (oq b ((h.2 b hb).2.lt hb))⟩⟩
theorem pb_K.tys {G : pb_G} {s : State} (h : pb_K G s) (k : Nat) {q : ClassId × FieldType} (hk : (pb_tys G.2.1)[k]? = some q) : ArrOfT s q.1 q.2 ∧ va_RA s q.1 q.2 := h.1.2 k q hk
def pb_en (L : List (Option Value)) : List (Nat × Value) := (List.range L.length).filterMap (fun i => (L[i]?.join).map (fun v => (i, v)))
theorem pb_en_in {L : List (Option Value)} {i : Nat} {v : Value} : (i, v) ∈ pb_en L ↔ L[i]? = some (some v) := by
  unfold pb_en
  rw [List.mem_filterMap]
  constructor
  · rintro ⟨j, -, h⟩
    cases e : L[j]? with
    | none => rw [e] at h; cases h
    | some o =>
      cases o with
      | none => rw [e] at h; cases h
      | some w =>
        rw [e] at h
        have h9 := Option.some.inj h
        cases h9
        exact e
  · intro h
    refine ⟨i, List.mem_range.mpr (List.getElem?_eq_some_iff.mp h).1, ?_⟩
    rw [h]
    rfl
theorem pb_L.has {ls : Array Slot} {L : List (Option Value)} (h : pb_L ls L) : lv_has ls L.length (pb_en L) := ⟨h.1, h.2.1, fun q hq => (h.2.2 q.1 q.2 (pb_en_in.mp hq)).1⟩
theorem pb_L.store {ls ls' : Array Slot} {L : List (Option Value)} {i : Nat} {v : Value} (h : pb_L ls L) (hi : i < L.length) (hc : v.category = 1) (h' : lv_has ls' L.length ((i, v) :: (pb_en L).filter (fun q => !(q.1 == i) && !(q.1 + 1 == i && q.2.category == 2)))) : pb_L ls' (L.set i (some v)) := by
  refine ⟨by rw [List.length_set]; exact h'.1, h'.2.1, fun j w hj => ?_⟩
  by_cases e : i = j
  · subst e
    rw [List.getElem?_set_self hi] at hj
    cases hj
    exact ⟨h'.2.2 (i, v) List.mem_cons_self, hc⟩
  · rw [List.getElem?_set_ne e] at hj
    refine ⟨h'.2.2 (j, w) (List.mem_cons_of_mem _ (List.mem_filter.mpr ⟨pb_en_in.mpr hj, ?_⟩)), (h.2.2 j w hj).2⟩
    have c1 := (h.2.2 j w hj).2
    have e1 : (j == i) = false := by simpa using fun q => e q.symm
    simp [e1, c1]
theorem pb_L.weaken {ls : Array Slot} {L L' : List (Option Value)} (h : pb_L ls L) (hn : L'.length = L.length) (hs : ∀ (i : Nat) (v : Value), L'[i]? = some (some v) → L[i]? = some (some v)) : pb_L ls L' := ⟨h.1.trans hn.symm, h.2.1, fun i v q => h.2.2 i v (hs i v q)⟩
section PVR
variable {F : pb_F} {μ : pb_M} {d k n : Nat} {cells slots sz : Nat} {sk : pb_Sk} {rf : pb_Rf} {sg : pb_Sg} {pc q : Nat} {L : List (Option Value)} {st : List Value}

theorem v_iadd (h : pb_Fx F μ d k n) {x y : Int32} (dd : decode μ.2.1 pc = .ok (.iadd, 1)) (hq : pc + 1 = q) (kk : pv F cells slots sz sk rf sg q L (.int (x + y) :: st)) : pv F cells slots sz sk rf sg pc L (.int y :: .int x :: st) := by
  subst hq
  intro H ls locs hR hL hS
  exact lv_iadd h.1 h.2.1 dd (kk H ls locs hR hL hS)
theorem v_isub (h : pb_Fx F μ d k n) {x y : Int32} (dd : decode μ.2.1 pc = .ok (.isub, 1)) (hq : pc + 1 = q) (kk : pv F cells slots sz sk rf sg q L (.int (x - y) :: st)) : pv F cells slots sz sk rf sg pc L (.int y :: .int x :: st) := by
  subst hq
  intro H ls locs hR hL hS
  exact lv_isub h.1 h.2.1 dd (kk H ls locs hR hL hS)
theorem v_imul (h : pb_Fx F μ d k n) {x y : Int32} (dd : decode μ.2.1 pc = .ok (.imul, 1)) (hq : pc + 1 = q) (kk : pv F cells slots sz sk rf sg q L (.int (x * y) :: st)) : pv F cells slots sz sk rf sg pc L (.int y :: .int x :: st) := by
  subst hq
  intro H ls locs hR hL hS
  exact lv_imul h.1 h.2.1 dd (kk H ls locs hR hL hS)
theorem v_iand (h : pb_Fx F μ d k n) {x y : Int32} (dd : decode μ.2.1 pc = .ok (.iand, 1)) (hq : pc + 1 = q) (kk : pv F cells slots sz sk rf sg q L (.int (x &&& y) :: st)) : pv F cells slots sz sk rf sg pc L (.int y :: .int x :: st) := by
  subst hq
  intro H ls locs hR hL hS
  exact lv_iand h.1 h.2.1 dd (kk H ls locs hR hL hS)
theorem v_ior (h : pb_Fx F μ d k n) {x y : Int32} (dd : decode μ.2.1 pc = .ok (.ior, 1)) (hq : pc + 1 = q) (kk : pv F cells slots sz sk rf sg q L (.int (x ||| y) :: st)) : pv F cells slots sz sk rf sg pc L (.int y :: .int x :: st) := by
  subst hq
  intro H ls locs hR hL hS
  exact lv_ior h.1 h.2.1 dd (kk H ls locs hR hL hS)
theorem v_ixor (h : pb_Fx F μ d k n) {x y : Int32} (dd : decode μ.2.1 pc = .ok (.ixor, 1)) (hq : pc + 1 = q) (kk : pv F cells slots sz sk rf sg q L (.int (x ^^^ y) :: st)) : pv F cells slots sz sk rf sg pc L (.int y :: .int x :: st) := by
  subst hq
  intro H ls locs hR hL hS
  exact lv_ixor h.1 h.2.1 dd (kk H ls locs hR hL hS)
theorem v_ishl (h : pb_Fx F μ d k n) {x y : Int32} (dd : decode μ.2.1 pc = .ok (.ishl, 1)) (hq : pc + 1 = q) (kk : pv F cells slots sz sk rf sg q L (.int (x <<< (y &&& 31)) :: st)) : pv F cells slots sz sk rf sg pc L (.int y :: .int x :: st) := by
  subst hq
  intro H ls locs hR hL hS
  exact lv_ishl h.1 h.2.1 dd (kk H ls locs hR hL hS)
theorem v_ishr (h : pb_Fx F μ d k n) {x y : Int32} (dd : decode μ.2.1 pc = .ok (.ishr, 1)) (hq : pc + 1 = q) (kk : pv F cells slots sz sk rf sg q L (.int (x >>> (y &&& 31)) :: st)) : pv F cells slots sz sk rf sg pc L (.int y :: .int x :: st) := by
  subst hq
  intro H ls locs hR hL hS
  exact lv_ishr h.1 h.2.1 dd (kk H ls locs hR hL hS)
theorem v_iushr (h : pb_Fx F μ d k n) {x y v : Int32} (dd : decode μ.2.1 pc = .ok (.iushr, 1)) (hq : pc + 1 = q) (hv : (x.toUInt32 >>> (y.toUInt32 &&& Int32.toUInt32 31)).toInt32 = v) (kk : pv F cells slots sz sk rf sg q L (.int v :: st)) : pv F cells slots sz sk rf sg pc L (.int y :: .int x :: st) := by
  subst hq
  intro H ls locs hR hL hS
  exact lv_iushr h.1 h.2.1 dd hv (kk H ls locs hR hL hS)
theorem v_idiv (h : pb_Fx F μ d k n) {x y : Int32} (dd : decode μ.2.1 pc = .ok (.idiv, 1)) (hq : pc + 1 = q) (hn : ¬ y = 0) (kk : pv F cells slots sz sk rf sg q L (.int (x / y) :: st)) : pv F cells slots sz sk rf sg pc L (.int y :: .int x :: st) := by
  subst hq
  intro H ls locs hR hL hS
  exact lv_idiv h.1 h.2.1 dd hn (kk H ls locs hR hL hS)
theorem v_irem (h : pb_Fx F μ d k n) {x y : Int32} (dd : decode μ.2.1 pc = .ok (.irem, 1)) (hq : pc + 1 = q) (hn : ¬ y = 0) (kk : pv F cells slots sz sk rf sg q L (.int (x - x / y * y) :: st)) : pv F cells slots sz sk rf sg pc L (.int y :: .int x :: st) := by
  subst hq
  intro H ls locs hR hL hS
  exact lv_irem h.1 h.2.1 dd hn (kk H ls locs hR hL hS)
theorem v_iconst (h : pb_Fx F μ d k n) {i : Int} {v : Int32} (dd : decode μ.2.1 pc = .ok (.iconst i, 1)) (hq : pc + 1 = q) (hv : Int32.ofInt i = v) (kk : pv F cells slots sz sk rf sg q L (.int v :: st)) : pv F cells slots sz sk rf sg pc L (st) := by
  subst hq
  intro H ls locs hR hL hS
  exact lv_iconst h.1 h.2.1 dd hv (kk H ls locs hR hL hS)
theorem v_bipush (h : pb_Fx F μ d k n) {i : Int} {v : Int32} (dd : decode μ.2.1 pc = .ok (.bipush i, 2)) (hq : pc + 2 = q) (hv : (Int8.ofInt i).toInt32 = v) (kk : pv F cells slots sz sk rf sg q L (.int v :: st)) : pv F cells slots sz sk rf sg pc L (st) := by
  subst hq
  intro H ls locs hR hL hS
  exact lv_bipush h.1 h.2.1 dd hv (kk H ls locs hR hL hS)
theorem v_sipush (h : pb_Fx F μ d k n) {i : Int} {v : Int32} (dd : decode μ.2.1 pc = .ok (.sipush i, 3)) (hq : pc + 3 = q) (hv : (Int16.ofInt i).toInt32 = v) (kk : pv F cells slots sz sk rf sg q L (.int v :: st)) : pv F cells slots sz sk rf sg pc L (st) := by
  subst hq
  intro H ls locs hR hL hS
  exact lv_sipush h.1 h.2.1 dd hv (kk H ls locs hR hL hS)
theorem v_ldc (h : pb_Fx F μ d k n) {i : Nat} {v : Int32} (dd : decode μ.2.1 pc = .ok (.ldc i, 2)) (hq : pc + 2 = q) (hw : Cond.constant μ.1.cls i v ∈ tbG) (kk : pv F cells slots sz sk rf sg q L (.int v :: st)) : pv F cells slots sz sk rf sg pc L (st) := by
  subst hq
  intro H ls locs hR hL hS
  exact lv_ldc h.1 h.2.1 h.2.2.2.2.1 (h.2.2.2.2.2.1 _ hw) dd (kk H ls locs hR hL hS)
theorem v_ldcw (h : pb_Fx F μ d k n) {i : Nat} {v : Int32} (dd : decode μ.2.1 pc = .ok (.ldc_w i, 3)) (hq : pc + 3 = q) (hw : Cond.constant μ.1.cls i v ∈ tbG) (kk : pv F cells slots sz sk rf sg q L (.int v :: st)) : pv F cells slots sz sk rf sg pc L (st) := by
  subst hq
  intro H ls locs hR hL hS
  exact lv_ldcw h.1 h.2.1 h.2.2.2.2.1 (h.2.2.2.2.2.1 _ hw) dd (kk H ls locs hR hL hS)
theorem v_lconst (h : pb_Fx F μ d k n) {i : Fin 2} {v : Int64} (dd : decode μ.2.1 pc = .ok (.lconst i, 1)) (hq : pc + 1 = q) (hv : Int64.ofNat (i : Nat) = v) (kk : pv F cells slots sz sk rf sg q L (.long v :: st)) : pv F cells slots sz sk rf sg pc L (st) := by
  subst hq
  intro H ls locs hR hL hS
  exact lv_lconst h.1 h.2.1 dd hv (kk H ls locs hR hL hS)
theorem v_i2l (h : pb_Fx F μ d k n) {x : Int32} (dd : decode μ.2.1 pc = .ok (.i2l, 1)) (hq : pc + 1 = q) (kk : pv F cells slots sz sk rf sg q L (.long x.toInt64 :: st)) : pv F cells slots sz sk rf sg pc L (.int x :: st) := by
  subst hq
  intro H ls locs hR hL hS
  exact lv_i2l h.1 h.2.1 dd rfl (kk H ls locs hR hL hS)
theorem v_lcmp (h : pb_Fx F μ d k n) {x y : Int64} (dd : decode μ.2.1 pc = .ok (.lcmp, 1)) (hq : pc + 1 = q) (kk : pv F cells slots sz sk rf sg q L (.int (lg_cmp x y) :: st)) : pv F cells slots sz sk rf sg pc L (.long y :: .long x :: st) := by
  subst hq
  intro H ls locs hR hL hS
  exact W.lcmp h.1 h.2.1 dd (kk H ls locs hR hL hS)
theorem v_dup (h : pb_Fx F μ d k n) {v : Value} (dd : decode μ.2.1 pc = .ok (.dup, 1)) (hq : pc + 1 = q) (hv : v.category = 1) (kk : pv F cells slots sz sk rf sg q L (v :: v :: st)) : pv F cells slots sz sk rf sg pc L (v :: st) := by
  subst hq
  intro H ls locs hR hL hS
  exact lv_dup h.1 h.2.1 dd hv (kk H ls locs hR hL hS)
theorem v_dup2 (h : pb_Fx F μ d k n) {v w : Value} (dd : decode μ.2.1 pc = .ok (.dup2, 1)) (hq : pc + 1 = q) (hv : v.category = 1) (hw : w.category = 1) (kk : pv F cells slots sz sk rf sg q L (v :: w :: v :: w :: st)) : pv F cells slots sz sk rf sg pc L (v :: w :: st) := by
  subst hq
  intro H ls locs hR hL hS
  exact lv_dup2_11 h.1 h.2.1 dd hv hw (kk H ls locs hR hL hS)
theorem v_pop (h : pb_Fx F μ d k n) {v : Value} (dd : decode μ.2.1 pc = .ok (.pop, 1)) (hq : pc + 1 = q) (hv : v.category = 1) (kk : pv F cells slots sz sk rf sg q L (st)) : pv F cells slots sz sk rf sg pc L (v :: st) := by
  subst hq
  intro H ls locs hR hL hS
  exact lv_pop h.1 h.2.1 dd hv (kk H ls locs hR hL hS)
theorem v_null (h : pb_Fx F μ d k n) (dd : decode μ.2.1 pc = .ok (.aconst_null, 1)) (hq : pc + 1 = q) (kk : pv F cells slots sz sk rf sg q L (.null :: st)) : pv F cells slots sz sk rf sg pc L (st) := by
  subst hq
  intro H ls locs hR hL hS
  exact lv_null h.1 h.2.1 dd (kk H ls locs hR hL hS)
theorem v_iload_n (h : pb_Fx F μ d k n) {j : Fin 4} {i : Nat} {x : Int32} (dd : decode μ.2.1 pc = .ok (.iload_n j, 1)) (hq : pc + 1 = q) (hj : (j : Nat) = i) (hv : L[i]? = some (some (.int x))) (kk : pv F cells slots sz sk rf sg q L (.int x :: st)) : pv F cells slots sz sk rf sg pc L (st) := by
  subst hq
  intro H ls locs hR hL hS
  exact lv_iload_n h.1 h.2.1 dd hj (hL.2.2 i _ hv).1 (kk H ls locs hR hL hS)
theorem v_iload (h : pb_Fx F μ d k n) {i : Nat} {x : Int32} (dd : decode μ.2.1 pc = .ok (.iload i, 2)) (hq : pc + 2 = q) (hv : L[i]? = some (some (.int x))) (kk : pv F cells slots sz sk rf sg q L (.int x :: st)) : pv F cells slots sz sk rf sg pc L (st) := by
  subst hq
  intro H ls locs hR hL hS
  exact lv_iload h.1 h.2.1 dd (hL.2.2 i _ hv).1 (kk H ls locs hR hL hS)
theorem v_aload_n (h : pb_Fx F μ d k n) {j : Fin 4} {i : Nat} {x : Nat} (dd : decode μ.2.1 pc = .ok (.aload_n j, 1)) (hq : pc + 1 = q) (hj : (j : Nat) = i) (hv : L[i]? = some (some (.ref x))) (kk : pv F cells slots sz sk rf sg q L (.ref x :: st)) : pv F cells slots sz sk rf sg pc L (st) := by
  subst hq
  intro H ls locs hR hL hS
  exact lv_aload_n h.1 h.2.1 dd hj (hL.2.2 i _ hv).1 (kk H ls locs hR hL hS)
theorem v_aload (h : pb_Fx F μ d k n) {i : Nat} {x : Nat} (dd : decode μ.2.1 pc = .ok (.aload i, 2)) (hq : pc + 2 = q) (hv : L[i]? = some (some (.ref x))) (kk : pv F cells slots sz sk rf sg q L (.ref x :: st)) : pv F cells slots sz sk rf sg pc L (st) := by
  subst hq
  intro H ls locs hR hL hS
  exact lv_aload h.1 h.2.1 dd (hL.2.2 i _ hv).1 (kk H ls locs hR hL hS)
theorem v_istore_n (h : pb_Fx F μ d k n) {j : Fin 4} {i : Nat} {x : Int32} {L' : List (Option Value)} (dd : decode μ.2.1 pc = .ok (.istore_n j, 1)) (hq : pc + 1 = q) (hj : (j : Nat) = i) (hi : i < L.length) (hl : L.set i (some (.int x)) = L') (kk : pv F cells slots sz sk rf sg q L' st) : pv F cells slots sz sk rf sg pc L (.int x :: st) := by
  subst hq
  subst hl
  intro H ls locs hR hL hS
  exact lv_istore_n h.1 h.2.1 dd hj hL.has hi rfl (fun ls' hl => kk H ls' locs hR (hL.store hi rfl hl) hS)
theorem v_istore (h : pb_Fx F μ d k n) {i : Nat} {x : Int32} {L' : List (Option Value)} (dd : decode μ.2.1 pc = .ok (.istore i, 2)) (hq : pc + 2 = q) (hi : i < L.length) (hl : L.set i (some (.int x)) = L') (kk : pv F cells slots sz sk rf sg q L' st) : pv F cells slots sz sk rf sg pc L (.int x :: st) := by
  subst hq
  subst hl
  intro H ls locs hR hL hS
  exact lv_istore h.1 h.2.1 dd hL.has hi rfl (fun ls' hl => kk H ls' locs hR (hL.store hi rfl hl) hS)
theorem v_astore_n (h : pb_Fx F μ d k n) {j : Fin 4} {i : Nat} {x : Nat} {L' : List (Option Value)} (dd : decode μ.2.1 pc = .ok (.astore_n j, 1)) (hq : pc + 1 = q) (hj : (j : Nat) = i) (hi : i < L.length) (hl : L.set i (some (.ref x)) = L') (kk : pv F cells slots sz sk rf sg q L' st) : pv F cells slots sz sk rf sg pc L (.ref x :: st) := by
  subst hq
  subst hl
  intro H ls locs hR hL hS
  exact lv_astore_n h.1 h.2.1 dd hj hL.has hi rfl (fun ls' hl => kk H ls' locs hR (hL.store hi rfl hl) hS)
theorem v_astore (h : pb_Fx F μ d k n) {i : Nat} {x : Nat} {L' : List (Option Value)} (dd : decode μ.2.1 pc = .ok (.astore i, 2)) (hq : pc + 2 = q) (hi : i < L.length) (hl : L.set i (some (.ref x)) = L') (kk : pv F cells slots sz sk rf sg q L' st) : pv F cells slots sz sk rf sg pc L (.ref x :: st) := by
  subst hq
  subst hl
  intro H ls locs hR hL hS
  exact lv_astore h.1 h.2.1 dd hL.has hi rfl (fun ls' hl => kk H ls' locs hR (hL.store hi rfl hl) hS)
theorem v_iinc (h : pb_Fx F μ d k n) {i : Nat} {x v : Int32} {z : Int} {L' : List (Option Value)} (dd : decode μ.2.1 pc = .ok (.iinc i z, 3)) (hq : pc + 3 = q) (hx : L[i]? = some (some (.int x))) (hv : x + Int32.ofInt z = v) (hl : L.set i (some (.int v)) = L') (kk : pv F cells slots sz sk rf sg q L' st) : pv F cells slots sz sk rf sg pc L st := by
  subst hq
  subst hl
  intro H ls locs hR hL hS
  have hi : i < L.length := (List.getElem?_eq_some_iff.mp hx).1
  obtain ⟨j, hj⟩ := List.getElem?_of_mem (pb_en_in.mpr hx)
  exact lv_iinc h.1 h.2.1 dd hL.has hj hv hi rfl (fun ls' hl => kk H ls' locs hR (hL.store hi rfl hl) hS)
theorem v_weak {L' : List (Option Value)} (hn : L'.length = L.length) (hs : ∀ (i : Nat) (v : Value), L'[i]? = some (some v) → L[i]? = some (some v)) (kk : pv F cells slots sz sk rf sg pc L' st) : pv F cells slots sz sk rf sg pc L st := fun H ls locs hR hL hS => kk H ls locs hR (hL.weaken hn hs) hS
theorem v_eq {st' : List Value} (e : st = st') (kk : pv F cells slots sz sk rf sg pc L st') : pv F cells slots sz sk rf sg pc L st := e ▸ kk
theorem v_sg {sg' : pb_Sg} (e : sg = sg') (kk : pv F cells slots sz sk rf sg' pc L st) : pv F cells slots sz sk rf sg pc L st := e ▸ kk
theorem v_cast {L' : List (Option Value)} {st' : List Value} {sg' : pb_Sg} (e1 : L = L') (e2 : st = st') (e3 : sg = sg') (kk : pv F cells slots sz sk rf sg' pc L' st') : pv F cells slots sz sk rf sg pc L st := by
  subst e1; subst e2; subst e3; exact kk
theorem v_if_eq (h : pb_Fx F μ d k n) {x : Int32} {off : Int} {tgt : Nat} (dd : decode μ.2.1 pc = .ok (.ifCond .eq off, 3)) (hq : pc + 3 = q) (ht : (pc : Int) + off = (tgt : Int)) (kt : x = 0 → pv F cells slots sz sk rf sg tgt L st) (kf : ¬ x = 0 → pv F cells slots sz sk rf sg q L st) : pv F cells slots sz sk rf sg pc L (.int x :: st) := by
  subst hq
  intro H ls locs hR hL hS
  exact lv_if_eq h.1 h.2.1 dd ht (fun c => kt c H ls locs hR hL hS) (fun c => kf c H ls locs hR hL hS)
theorem v_icmp_eq (h : pb_Fx F μ d k n) {x y : Int32} {off : Int} {tgt : Nat} (dd : decode μ.2.1 pc = .ok (.if_icmp .eq off, 3)) (hq : pc + 3 = q) (ht : (pc : Int) + off = (tgt : Int)) (kt : x = y → pv F cells slots sz sk rf sg tgt L st) (kf : ¬ x = y → pv F cells slots sz sk rf sg q L st) : pv F cells slots sz sk rf sg pc L (.int y :: .int x :: st) := by
  subst hq
  intro H ls locs hR hL hS
  exact lv_icmp_eq h.1 h.2.1 dd ht (fun c => kt c H ls locs hR hL hS) (fun c => kf c H ls locs hR hL hS)
theorem v_if_ne (h : pb_Fx F μ d k n) {x : Int32} {off : Int} {tgt : Nat} (dd : decode μ.2.1 pc = .ok (.ifCond .ne off, 3)) (hq : pc + 3 = q) (ht : (pc : Int) + off = (tgt : Int)) (kt : ¬ x = 0 → pv F cells slots sz sk rf sg tgt L st) (kf : x = 0 → pv F cells slots sz sk rf sg q L st) : pv F cells slots sz sk rf sg pc L (.int x :: st) := by
  subst hq
  intro H ls locs hR hL hS
  exact lv_if_ne h.1 h.2.1 dd ht (fun c => kt c H ls locs hR hL hS) (fun c => kf c H ls locs hR hL hS)
theorem v_icmp_ne (h : pb_Fx F μ d k n) {x y : Int32} {off : Int} {tgt : Nat} (dd : decode μ.2.1 pc = .ok (.if_icmp .ne off, 3)) (hq : pc + 3 = q) (ht : (pc : Int) + off = (tgt : Int)) (kt : ¬ x = y → pv F cells slots sz sk rf sg tgt L st) (kf : x = y → pv F cells slots sz sk rf sg q L st) : pv F cells slots sz sk rf sg pc L (.int y :: .int x :: st) := by
  subst hq
  intro H ls locs hR hL hS
  exact lv_icmp_ne h.1 h.2.1 dd ht (fun c => kt c H ls locs hR hL hS) (fun c => kf c H ls locs hR hL hS)
theorem v_if_lt (h : pb_Fx F μ d k n) {x : Int32} {off : Int} {tgt : Nat} (dd : decode μ.2.1 pc = .ok (.ifCond .lt off, 3)) (hq : pc + 3 = q) (ht : (pc : Int) + off = (tgt : Int)) (kt : x < 0 → pv F cells slots sz sk rf sg tgt L st) (kf : ¬ x < 0 → pv F cells slots sz sk rf sg q L st) : pv F cells slots sz sk rf sg pc L (.int x :: st) := by
  subst hq
  intro H ls locs hR hL hS
  exact lv_if_lt h.1 h.2.1 dd ht (fun c => kt c H ls locs hR hL hS) (fun c => kf c H ls locs hR hL hS)
theorem v_icmp_lt (h : pb_Fx F μ d k n) {x y : Int32} {off : Int} {tgt : Nat} (dd : decode μ.2.1 pc = .ok (.if_icmp .lt off, 3)) (hq : pc + 3 = q) (ht : (pc : Int) + off = (tgt : Int)) (kt : x < y → pv F cells slots sz sk rf sg tgt L st) (kf : ¬ x < y → pv F cells slots sz sk rf sg q L st) : pv F cells slots sz sk rf sg pc L (.int y :: .int x :: st) := by
  subst hq
  intro H ls locs hR hL hS
  exact lv_icmp_lt h.1 h.2.1 dd ht (fun c => kt c H ls locs hR hL hS) (fun c => kf c H ls locs hR hL hS)
theorem v_if_ge (h : pb_Fx F μ d k n) {x : Int32} {off : Int} {tgt : Nat} (dd : decode μ.2.1 pc = .ok (.ifCond .ge off, 3)) (hq : pc + 3 = q) (ht : (pc : Int) + off = (tgt : Int)) (kt : 0 ≤ x → pv F cells slots sz sk rf sg tgt L st) (kf : ¬ 0 ≤ x → pv F cells slots sz sk rf sg q L st) : pv F cells slots sz sk rf sg pc L (.int x :: st) := by
  subst hq
  intro H ls locs hR hL hS
  exact lv_if_ge h.1 h.2.1 dd ht (fun c => kt c H ls locs hR hL hS) (fun c => kf c H ls locs hR hL hS)
theorem v_icmp_ge (h : pb_Fx F μ d k n) {x y : Int32} {off : Int} {tgt : Nat} (dd : decode μ.2.1 pc = .ok (.if_icmp .ge off, 3)) (hq : pc + 3 = q) (ht : (pc : Int) + off = (tgt : Int)) (kt : y ≤ x → pv F cells slots sz sk rf sg tgt L st) (kf : ¬ y ≤ x → pv F cells slots sz sk rf sg q L st) : pv F cells slots sz sk rf sg pc L (.int y :: .int x :: st) := by
  subst hq
  intro H ls locs hR hL hS
  exact lv_icmp_ge h.1 h.2.1 dd ht (fun c => kt c H ls locs hR hL hS) (fun c => kf c H ls locs hR hL hS)
theorem v_if_gt (h : pb_Fx F μ d k n) {x : Int32} {off : Int} {tgt : Nat} (dd : decode μ.2.1 pc = .ok (.ifCond .gt off, 3)) (hq : pc + 3 = q) (ht : (pc : Int) + off = (tgt : Int)) (kt : 0 < x → pv F cells slots sz sk rf sg tgt L st) (kf : ¬ 0 < x → pv F cells slots sz sk rf sg q L st) : pv F cells slots sz sk rf sg pc L (.int x :: st) := by
  subst hq
  intro H ls locs hR hL hS
  exact lv_if_gt h.1 h.2.1 dd ht (fun c => kt c H ls locs hR hL hS) (fun c => kf c H ls locs hR hL hS)
theorem v_icmp_gt (h : pb_Fx F μ d k n) {x y : Int32} {off : Int} {tgt : Nat} (dd : decode μ.2.1 pc = .ok (.if_icmp .gt off, 3)) (hq : pc + 3 = q) (ht : (pc : Int) + off = (tgt : Int)) (kt : y < x → pv F cells slots sz sk rf sg tgt L st) (kf : ¬ y < x → pv F cells slots sz sk rf sg q L st) : pv F cells slots sz sk rf sg pc L (.int y :: .int x :: st) := by
  subst hq
  intro H ls locs hR hL hS
  exact lv_icmp_gt h.1 h.2.1 dd ht (fun c => kt c H ls locs hR hL hS) (fun c => kf c H ls locs hR hL hS)
theorem v_if_le (h : pb_Fx F μ d k n) {x : Int32} {off : Int} {tgt : Nat} (dd : decode μ.2.1 pc = .ok (.ifCond .le off, 3)) (hq : pc + 3 = q) (ht : (pc : Int) + off = (tgt : Int)) (kt : x ≤ 0 → pv F cells slots sz sk rf sg tgt L st) (kf : ¬ x ≤ 0 → pv F cells slots sz sk rf sg q L st) : pv F cells slots sz sk rf sg pc L (.int x :: st) := by
  subst hq
  intro H ls locs hR hL hS
  exact lv_if_le h.1 h.2.1 dd ht (fun c => kt c H ls locs hR hL hS) (fun c => kf c H ls locs hR hL hS)
theorem v_icmp_le (h : pb_Fx F μ d k n) {x y : Int32} {off : Int} {tgt : Nat} (dd : decode μ.2.1 pc = .ok (.if_icmp .le off, 3)) (hq : pc + 3 = q) (ht : (pc : Int) + off = (tgt : Int)) (kt : x ≤ y → pv F cells slots sz sk rf sg tgt L st) (kf : ¬ x ≤ y → pv F cells slots sz sk rf sg q L st) : pv F cells slots sz sk rf sg pc L (.int y :: .int x :: st) := by
  subst hq
  intro H ls locs hR hL hS
  exact lv_icmp_le h.1 h.2.1 dd ht (fun c => kt c H ls locs hR hL hS) (fun c => kf c H ls locs hR hL hS)
theorem v_goto (h : pb_Fx F μ d k n) {off : Int} {tgt : Nat} (dd : decode μ.2.1 pc = .ok (.goto off, 3)) (ht : (pc : Int) + off = (tgt : Int)) (kk : pv F cells slots sz sk rf sg tgt L st) : pv F cells slots sz sk rf sg pc L st := fun H ls locs hR hL hS => lv_goto h.1 h.2.1 dd ht (kk H ls locs hR hL hS)
end PVR
end
section
section PVR
variable {F : pb_F} {μ : pb_M} {d k n : Nat} {cells slots sz : Nat} {sk : pb_Sk} {rf : pb_Rf} {sg : pb_Sg} {pc q : Nat} {L : List (Option Value)} {st : List Value}
theorem v_ifnull (h : pb_Fx F μ d k n) {x : Nat} {off : Int} (dd : decode μ.2.1 pc = .ok (.ifnull off, 3)) (hq : pc + 3 = q) (kk : pv F cells slots sz sk rf sg q L st) : pv F cells slots sz sk rf sg pc L (.ref x :: st) := by
  subst hq
  exact fun H ls locs hR hL hS => lv_ifnull h.1 h.2.1 dd (kk H ls locs hR hL hS)
theorem v_ifnullN (h : pb_Fx F μ d k n) {off : Int} {tgt : Nat} (dd : decode μ.2.1 pc = .ok (.ifnull off, 3)) (ht : (pc : Int) + off = (tgt : Int)) (kk : pv F cells slots sz sk rf sg tgt L st) : pv F cells slots sz sk rf sg pc L (.null :: st) :=
  fun H ls locs hR hL hS => lv_ifnullN h.1 h.2.1 dd ht (kk H ls locs hR hL hS)
theorem v_ifnonnull (h : pb_Fx F μ d k n) {x : Nat} {off : Int} {tgt : Nat} (dd : decode μ.2.1 pc = .ok (.ifnonnull off, 3)) (ht : (pc : Int) + off = (tgt : Int)) (kk : pv F cells slots sz sk rf sg tgt L st) : pv F cells slots sz sk rf sg pc L (.ref x :: st) :=
  fun H ls locs hR hL hS => lv_ifnonnull h.1 h.2.1 dd ht (kk H ls locs hR hL hS)
theorem v_ifnonnullN (h : pb_Fx F μ d k n) {off : Int} (dd : decode μ.2.1 pc = .ok (.ifnonnull off, 3)) (hq : pc + 3 = q) (kk : pv F cells slots sz sk rf sg q L st) : pv F cells slots sz sk rf sg pc L (.null :: st) := by
  subst hq
  exact fun H ls locs hR hL hS => lv_ifnonnullN h.1 h.2.1 dd (kk H ls locs hR hL hS)
/-- the field j of the class c, as the pool of own names it at i -/
def pb_FL (own : String) (i c j : Nat) : Prop := c < 9 ∧ j < pb_N c ∧ Cond.fieldLink own i (pb_T c j).1 (pb_T c j).2.1 (pb_T c j).2.2.1 ∈ tbG
theorem pb_isI_int {t : FieldType} (h : pb_isI t = true) : t = .int := by
  cases t <;> first | rfl | (simp [pb_isI] at h)
theorem pb_cellO {D : va_G} {cA : Nat → ClassId} {kd : Nat × Nat} {r : Nat → Option Nat} {f : Nat → Int32} {a c m : Nat} {H : Heap} (h : pb_cell D cA kd r f a H) (hk : kd = (c + 6, m)) : t_OB a (D.1 c) (pb_N c) (D.2 c) H (pb_V c r f) := by
  subst hk
  exact h
theorem v_getv (h : pb_Fx F μ d k n) {i c j a : Nat} {v : Value} (hw : pb_FL μ.1.cls i c j) (hk : sk a = (c + 6, 0)) (hv : pb_V c (rf a) (sg a) j = v) (dd : decode μ.2.1 pc = .ok (.getfield i, 3)) (hq : pc + 3 = q) (kk : pv F cells slots sz sk rf sg q L (v :: st)) : pv F cells slots sz sk rf sg pc L (.ref a :: st) := by
  subst hq
  subst hv
  obtain ⟨hc, hj, hw⟩ := hw
  obtain ⟨hx, hb, hr, hml, hown, hts, hlk, hnm, htab, hfl, hK, hb0, hrm⟩ := h
  intro H ls locs hR hL hS
  have h1 := pb_cellO (hR.2 a (by rw [hk]; exact Nat.succ_ne_zero _)).2 hk
  obtain ⟨cell, q1, q2, q3, q4⟩ := h1
  obtain ⟨hSl, hfc, kC, hkC, hkind⟩ := hK.1.1 c _ (pb_cl hc)
  obtain ⟨cf, kf, fi, f, hi, hsl⟩ := hSl j hj
  refine W.getf hx hb hown (hts _ hw) hi (u_facts hfc hkC (u_lays hts (pb_lay hc) hj) hi).1 q1 (by rw [q3]; exact fun h => by cases h) (v := pb_V c (rf a) (sg a) j) ?_ rfl rfl dd (kk H ls locs hR hL hS)
  rw [hsl]
  exact q4 j hj
theorem v_geti (h : pb_Fx F μ d k n) {i c j a : Nat} (hw : pb_FL μ.1.cls i c j) (hk : sk a = (c + 6, 0)) (hI : pb_isI (pb_ty c j) = true) (dd : decode μ.2.1 pc = .ok (.getfield i, 3)) (hq : pc + 3 = q) (kk : pv F cells slots sz sk rf sg q L (.int (sg a j) :: st)) : pv F cells slots sz sk rf sg pc L (.ref a :: st) :=
  v_getv h hw hk (if_pos hI) dd hq kk
theorem v_getr (h : pb_Fx F μ d k n) {i c j a b : Nat} (hw : pb_FL μ.1.cls i c j) (hk : sk a = (c + 6, 0)) (hI : pb_isI (pb_ty c j) = false) (hr : rf a j = some b) (dd : decode μ.2.1 pc = .ok (.getfield i, 3)) (hq : pc + 3 = q) (kk : pv F cells slots sz sk rf sg q L (.ref b :: st)) : pv F cells slots sz sk rf sg pc L (.ref a :: st) :=
  v_getv h hw hk ((if_neg (by rw [hI]; decide)).trans (by rw [hr]; rfl)) dd hq kk
theorem v_getn (h : pb_Fx F μ d k n) {i c j a : Nat} (hw : pb_FL μ.1.cls i c j) (hk : sk a = (c + 6, 0)) (hI : pb_isI (pb_ty c j) = false) (hr : rf a j = none) (dd : decode μ.2.1 pc = .ok (.getfield i, 3)) (hq : pc + 3 = q) (kk : pv F cells slots sz sk rf sg q L (.null :: st)) : pv F cells slots sz sk rf sg pc L (.ref a :: st) :=
  v_getv h hw hk ((if_neg (by rw [hI]; decide)).trans (by rw [hr]; rfl)) dd hq kk
theorem pb_apart {own : String} {args : Array Value} {s : State} {G : pb_G} (hts : ∀ w ∈ tbG, w.before args s = true) (hK : pb_K G s) {c : Nat} (hc : c < 9) : ∀ x y, x < pb_N c → y < pb_N c → x ≠ y → (G.1.2 c) x ≠ (G.1.2 c) y :=
  va_apart (own := own) hts (pb_lay hc) (pb_ty c) (pb_tok hc) (pb_nm hc) hK.1 (pb_cl hc)
/-- any write of a field that isn't final -/
theorem v_putv (h : pb_Fx F μ d k n) {i c j a : Nat} {v : Value} {rf' : pb_Rf} {sg' : pb_Sg} (hw : pb_FL μ.1.cls i c j) (hk : sk a = (c + 6, 0)) (hfin : (pb_T c j).2.2.2 = false) (hn : narrow (pb_ty c j) v = v) (hf : fits (pb_ty c j) v = true) (hr : ∀ b, b ≠ a → rf' b = rf b) (hs : ∀ b, b ≠ a → sg' b = sg b) (hV : ∀ x, x < pb_N c → updV (pb_V c (rf a) (sg a)) j v x = pb_V c (rf' a) (sg' a) x) (dd : decode μ.2.1 pc = .ok (.putfield i, 3)) (hq : pc + 3 = q) (kk : pv F cells slots sz sk rf' sg' q L st) : pv F cells slots sz sk rf sg pc L (v :: .ref a :: st) := by
  subst hq
  obtain ⟨hc, hj, hw⟩ := hw
  obtain ⟨hx, hb, hret, hml, hown, hts, hlk, hnm, htab, hfl, hK, hb0, hrm⟩ := h
  intro H ls locs hR hL hS
  have h0 := hR.2 a (by rw [hk]; exact Nat.succ_ne_zero _)
  obtain ⟨cell, q1, q2, q3, q4⟩ := pb_cellO h0.2 hk
  have hap := pb_apart (own := μ.1.cls) hts hK hc
  obtain ⟨hSl, hfc, kC, hkC, hkind⟩ := hK.1.1 c _ (pb_cl hc)
  obtain ⟨cf, kf, fi, f, hi, hsl⟩ := hSl j hj
  have hlay := hts _ (pb_lay hc _ (u_in_lay hj))
  unfold u_lay at hlay
  rw [if_neg (by rw [hfin]; decide)] at hlay
  have hst := (u_facts hfc hkC (u_lays hts (pb_lay hc) hj) hi).1
  have h6 := u_store hfc hkC hkind hlay hi (pb_tok hc j hj) hn hf
  refine W.putK hx hb (f := f) ⟨hown, hts _ hw, ⟨_, _, _, hi⟩, hst⟩ (by rw [q2]; exact h6) q1 q3 (by rw [hsl]; exact k2_hasslot (q4 j hj)) rfl rfl dd fun H' e1 e2 e3 => ?_
  rw [hsl] at e1 ⊢
  refine kk H' ls _ (hR.set a hr hs ?_ e2 e3) hL (hS.put e2 e3 h0.1)
  rw [hk]
  exact t_OB.to (V := updV (pb_V c (rf a) (sg a)) j v) ⟨_, e1, q2, q3, t_set q4 hap hj v⟩ hV
theorem pb_updI {c j : Nat} {r : Nat → Option Nat} {f : Nat → Int32} {x : Int32} (hI : pb_isI (pb_ty c j) = true) (y : Nat) : updV (pb_V c r f) j (.int x) y = pb_V c r (upd f j x) y := by
  unfold updV pb_V upd
  by_cases e : y = j
  · subst e
    simp [hI]
  · simp [e]
theorem pb_updR {c j : Nat} {r : Nat → Option Nat} {f : Nat → Int32} {x : Option Nat} (hI : pb_isI (pb_ty c j) = false) (y : Nat) : updV (pb_V c r f) j (va_rf x) y = pb_V c (va_up r j x) f y := by
  unfold updV pb_V va_up
  by_cases e : y = j
  · subst e
    simp [hI]
  · simp [e]
theorem v_puti (h : pb_Fx F μ d k n) {i c j a : Nat} {x : Int32} (hw : pb_FL μ.1.cls i c j) (hk : sk a = (c + 6, 0)) (hfin : (pb_T c j).2.2.2 = false) (hI : pb_isI (pb_ty c j) = true) (dd : decode μ.2.1 pc = .ok (.putfield i, 3)) (hq : pc + 3 = q) (kk : pv F cells slots sz sk rf (pb_up sg a j x) q L st) : pv F cells slots sz sk rf sg pc L (.int x :: .ref a :: st) :=
  v_putv h hw hk hfin (by rw [pb_isI_int hI]; rfl) (by rw [pb_isI_int hI]; rfl) (fun _ _ => rfl) (fun b hb => pb_up_ne hb) (fun y _ => by rw [pb_up_eq]; exact pb_updI hI y) dd hq kk
/-- a final field, in the constructor -/
theorem v_putF (h : pb_Fx F μ d k n) {i c j a : Nat} {v : Value} {rf' : pb_Rf} {sg' : pb_Sg} (hw : pb_FL μ.1.cls i c j) (hk : sk a = (c + 6, 0)) (hfin : (pb_T c j).2.2.2 = true) (hin : μ.1.name = "<init>") (hdecl : (pb_T c j).1 = μ.1.cls) (hn : narrow (pb_ty c j) v = v) (hf : fits (pb_ty c j) v = true) (hr : ∀ b, b ≠ a → rf' b = rf b) (hs : ∀ b, b ≠ a → sg' b = sg b) (hV : ∀ x, x < pb_N c → updV (pb_V c (rf a) (sg a)) j v x = pb_V c (rf' a) (sg' a) x) (dd : decode μ.2.1 pc = .ok (.putfield i, 3)) (hq : pc + 3 = q) (kk : pv F cells slots sz sk rf' sg' q L st) : pv F cells slots sz sk rf sg pc L (v :: .ref a :: st) := by
  subst hq
  obtain ⟨hc, hj, hw⟩ := hw
  obtain ⟨hx, hb, hret, hml, hown, hts, hlk, hnm, htab, hfl, hK, hb0, hrm⟩ := h
  intro H ls locs hR hL hS
  have h0 := hR.2 a (by rw [hk]; exact Nat.succ_ne_zero _)
  obtain ⟨cell, q1, q2, q3, q4⟩ := pb_cellO h0.2 hk
  have hap := pb_apart (own := μ.1.cls) hts hK hc
  obtain ⟨hSl, hfc, kC, hkC, hkind⟩ := hK.1.1 c _ (pb_cl hc)
  obtain ⟨cf, kf, fi, f, hi, hsl⟩ := hSl j hj
  have hlay := hts _ (pb_lay hc _ (u_in_lay hj))
  unfold u_lay at hlay
  rw [if_pos hfin] at hlay
  have hst := (u_facts hfc hkC (u_lays hts (pb_lay hc) hj) hi).1
  have hcf : (pb_m F).cls = cf := by
    obtain ⟨_, _, c', _, _, _, -, -, hf', -, -, -, hown2, -⟩ := Cond.laysFinal_spec hlay
    have e1 : c' = cf := by have := hi.symm.trans hf'; simp at this; exact this.1.symm
    rw [hdecl] at hown2
    rw [← e1]; exact Option.some.inj (hown.symm.trans hown2)
  have h6 := u_fits hfc hkC hkind (Or.inr hlay) hi (pb_tok hc j hj) hn hf
  refine W.putFinK hx hb hown (hts _ hw) hi hst hcf (hnm.trans hin) (by rw [q2]; exact h6) q1 q3 (by rw [hsl]; exact k2_hasslot (q4 j hj)) rfl rfl dd fun H' e1 e2 e3 => ?_
  rw [hsl] at e1 ⊢
  refine kk H' ls _ (hR.set a hr hs ?_ e2 e3) hL (hS.put e2 e3 h0.1)
  rw [hk]
  exact t_OB.to (V := updV (pb_V c (rf a) (sg a)) j v) ⟨_, e1, q2, q3, t_set q4 hap hj v⟩ hV
theorem v_putFi (h : pb_Fx F μ d k n) {i c j a : Nat} {x : Int32} (hw : pb_FL μ.1.cls i c j) (hk : sk a = (c + 6, 0)) (hfin : (pb_T c j).2.2.2 = true) (hin : μ.1.name = "<init>") (hdecl : (pb_T c j).1 = μ.1.cls) (hI : pb_isI (pb_ty c j) = true) (dd : decode μ.2.1 pc = .ok (.putfield i, 3)) (hq : pc + 3 = q) (kk : pv F cells slots sz sk rf (pb_up sg a j x) q L st) : pv F cells slots sz sk rf sg pc L (.int x :: .ref a :: st) :=
  v_putF h hw hk hfin hin hdecl (by rw [pb_isI_int hI]; rfl) (by rw [pb_isI_int hI]; rfl) (fun _ _ => rfl) (fun b hb => pb_up_ne hb) (fun y _ => by rw [pb_up_eq]; exact pb_updI hI y) dd hq kk
def pb_isR (t : FieldType) : Bool := match t with
  | .object _ => true
  | .array _ => true
  | _ => false
theorem pb_isR_I {t : FieldType} (h : pb_isR t = true) : pb_isI t = false := by
  cases t <;> first | rfl | (simp [pb_isR] at h)
theorem pb_isR_n {t : FieldType} (h : pb_isR t = true) (x : Option Nat) : narrow t (va_rf x) = va_rf x ∧ fits t (va_rf x) = true := by
  cases t <;> cases x <;> first | exact ⟨rfl, rfl⟩ | (simp [pb_isR] at h)
theorem v_putFr (h : pb_Fx F μ d k n) {i c j a b : Nat} (hw : pb_FL μ.1.cls i c j) (hk : sk a = (c + 6, 0)) (hfin : (pb_T c j).2.2.2 = true) (hin : μ.1.name = "<init>") (hdecl : (pb_T c j).1 = μ.1.cls) (hI : pb_isR (pb_ty c j) = true) (dd : decode μ.2.1 pc = .ok (.putfield i, 3)) (hq : pc + 3 = q) (kk : pv F cells slots sz sk (pb_ur rf a j (some b)) sg q L st) : pv F cells slots sz sk rf sg pc L (.ref b :: .ref a :: st) :=
  v_putF h hw hk hfin hin hdecl (pb_isR_n hI (some b)).1 (pb_isR_n hI (some b)).2 (fun b hb => pb_ur_ne hb) (fun _ _ => rfl) (fun y _ => by rw [pb_ur_eq]; exact pb_updR (x := some b) (pb_isR_I hI) y) dd hq kk
theorem v_putFn (h : pb_Fx F μ d k n) {i c j a : Nat} (hw : pb_FL μ.1.cls i c j) (hk : sk a = (c + 6, 0)) (hfin : (pb_T c j).2.2.2 = true) (hin : μ.1.name = "<init>") (hdecl : (pb_T c j).1 = μ.1.cls) (hI : pb_isR (pb_ty c j) = true) (dd : decode μ.2.1 pc = .ok (.putfield i, 3)) (hq : pc + 3 = q) (kk : pv F cells slots sz sk (pb_ur rf a j none) sg q L st) : pv F cells slots sz sk rf sg pc L (.null :: .ref a :: st) :=
  v_putF h hw hk hfin hin hdecl (pb_isR_n hI none).1 (pb_isR_n hI none).2 (fun b hb => pb_ur_ne hb) (fun _ _ => rfl) (fun y _ => by rw [pb_ur_eq]; exact pb_updR (x := none) (pb_isR_I hI) y) dd hq kk
-- arrays
theorem pb_ix {i : Int32} {t m : Nat} (hi : i = nI t) (ht : t < m) (hm : m < 2 ^ 31) : i.toNatClampNeg = t ∧ ¬ (i < 0 ∨ m ≤ i.toNatClampNeg) := by
  subst hi
  exact ⟨nI_clamp (by omega), nI_in ht hm⟩
theorem v_iald (h : pb_Fx F μ d k n) {a t m : Nat} {i : Int32} (hk : sk a = (1, m)) (hi : i = nI t) (ht : t < m) (hm : m < 2 ^ 31) (dd : decode μ.2.1 pc = .ok (.iaload, 1)) (hq : pc + 1 = q) (kk : pv F cells slots sz sk rf sg q L (.int (sg a t) :: st)) : pv F cells slots sz sk rf sg pc L (.int i :: .ref a :: st) := by
  subst hq
  obtain ⟨e1, e2⟩ := pb_ix hi ht hm
  intro H ls locs hR hL hS
  have h1 := (hR.2 a (by rw [hk]; exact Nat.succ_ne_zero _)).2
  rw [hk] at h1
  refine W.iald (v := .int (sg a t)) h.1 h.2.1 h1 ((h.2.2.2.2.2.2.2.2.2.2.1.tys 0 rfl).1 m (fun j => .int (sg a j))) (fun q => by cases q) (by rw [arrV_size]; exact e2) (by rw [e1, arrV_read _ _ ht]) rfl rfl dd (kk H ls locs hR hL hS)
theorem v_zald (h : pb_Fx F μ d k n) {a t m : Nat} {i : Int32} (hk : sk a = (2, m)) (hi : i = nI t) (ht : t < m) (hm : m < 2 ^ 31) (dd : decode μ.2.1 pc = .ok (.baload, 1)) (hq : pc + 1 = q) (kk : pv F cells slots sz sk rf sg q L (.int (sg a t) :: st)) : pv F cells slots sz sk rf sg pc L (.int i :: .ref a :: st) := by
  subst hq
  obtain ⟨e1, e2⟩ := pb_ix hi ht hm
  intro H ls locs hR hL hS
  have h1 := (hR.2 a (by rw [hk]; exact Nat.succ_ne_zero _)).2
  rw [hk] at h1
  refine W.zald (v := .int (sg a t)) h.1 h.2.1 h1 ((h.2.2.2.2.2.2.2.2.2.2.1.tys 1 rfl).1 m (fun j => .int (sg a j))) (fun q => by cases q) (by rw [arrV_size]; exact e2) (by rw [e1, arrV_read _ _ ht]) rfl rfl dd (kk H ls locs hR hL hS)
theorem v_lald (h : pb_Fx F μ d k n) {a t m : Nat} {i : Int32} (hk : sk a = (3, m)) (hi : i = nI t) (ht : t < m) (hm : m < 2 ^ 31) (dd : decode μ.2.1 pc = .ok (.laload, 1)) (hq : pc + 1 = q) (kk : pv F cells slots sz sk rf sg q L (.long (sg a t).toInt64 :: st)) : pv F cells slots sz sk rf sg pc L (.int i :: .ref a :: st) := by
  subst hq
  obtain ⟨e1, e2⟩ := pb_ix hi ht hm
  intro H ls locs hR hL hS
  have h1 := (hR.2 a (by rw [hk]; exact Nat.succ_ne_zero _)).2
  rw [hk] at h1
  refine W.lald (v := .long (sg a t).toInt64) h.1 h.2.1 h1 ((h.2.2.2.2.2.2.2.2.2.2.1.tys 2 rfl).1 m (fun j => .long (sg a j).toInt64)) (fun q => by cases q) (by rw [arrV_size]; exact e2) (by rw [e1, arrV_read _ _ ht]) rfl rfl dd (kk H ls locs hR hL hS)
theorem pb_updV {α : Type} (φ : α → Value) (f : Nat → α) (f' : Nat → α) (k : Nat) (x : α) (hf : ∀ j, f' j = if j = k then x else f j) : updV (fun j => φ (f j)) k (φ x) = fun j => φ (f' j) := by
  funext j
  rw [hf j]
  unfold updV
  by_cases e : j = k
  · simp [e]
  · simp [e]
theorem v_iast (h : pb_Fx F μ d k n) {a t m : Nat} {i x : Int32} (hk : sk a = (1, m)) (hi : i = nI t) (ht : t < m) (hm : m < 2 ^ 31) (dd : decode μ.2.1 pc = .ok (.iastore, 1)) (hq : pc + 1 = q) (kk : pv F cells slots sz sk rf (pb_up sg a t x) q L st) : pv F cells slots sz sk rf sg pc L (.int x :: .int i :: .ref a :: st) := by
  subst hq
  obtain ⟨e1, e2⟩ := pb_ix hi ht hm
  intro H ls locs hR hL hS
  have h0 := hR.2 a (by rw [hk]; exact Nat.succ_ne_zero _)
  have h1 := h0.2
  rw [hk] at h1
  refine W.iast h.1 h.2.1 h1 ((h.2.2.2.2.2.2.2.2.2.2.1.tys 0 rfl).1 m (fun j => .int (sg a j))) (fun q => by cases q) (by rw [arrV_size]; exact e2) rfl rfl dd (fun H1 e z oq => ?_)
  refine kk H1 ls _ (hR.set a (fun _ _ => rfl) (fun b hb => pb_up_ne hb) ?_ z oq) hL (hS.put z oq h0.1)
  rw [hk, pb_up_eq]
  show H1[a]? = some (arrV _ m _)
  rw [e, e1, arrV_store]
  rw [pb_updV Value.int (sg a) (upd (sg a) t x) t x (fun j => rfl)]
theorem v_zast (h : pb_Fx F μ d k n) {a t m : Nat} {i x : Int32} (hk : sk a = (2, m)) (hi : i = nI t) (ht : t < m) (hm : m < 2 ^ 31) (hx1 : x &&& 1 = x) (dd : decode μ.2.1 pc = .ok (.bastore, 1)) (hq : pc + 1 = q) (kk : pv F cells slots sz sk rf (pb_up sg a t x) q L st) : pv F cells slots sz sk rf sg pc L (.int x :: .int i :: .ref a :: st) := by
  subst hq
  obtain ⟨e1, e2⟩ := pb_ix hi ht hm
  intro H ls locs hR hL hS
  have h0 := hR.2 a (by rw [hk]; exact Nat.succ_ne_zero _)
  have h1 := h0.2
  rw [hk] at h1
  refine W.zast h.1 h.2.1 h1 ((h.2.2.2.2.2.2.2.2.2.2.1.tys 1 rfl).1 m (fun j => .int (sg a j))) (fun q => by cases q) (by rw [arrV_size]; exact e2) rfl rfl dd (fun H1 e z oq => ?_)
  refine kk H1 ls _ (hR.set a (fun _ _ => rfl) (fun b hb => pb_up_ne hb) ?_ z oq) hL (hS.put z oq h0.1)
  rw [hk, pb_up_eq]
  show H1[a]? = some (arrV _ m _)
  have e3 : narrow .boolean (.int x) = .int x := by show Value.int (x &&& 1) = _; rw [hx1]
  rw [e, e1, e3, arrV_store]
  rw [pb_updV Value.int (sg a) (upd (sg a) t x) t x (fun j => rfl)]
theorem v_last (h : pb_Fx F μ d k n) {a t m : Nat} {i x : Int32} (hk : sk a = (3, m)) (hi : i = nI t) (ht : t < m) (hm : m < 2 ^ 31) (dd : decode μ.2.1 pc = .ok (.lastore, 1)) (hq : pc + 1 = q) (kk : pv F cells slots sz sk rf (pb_up sg a t x) q L st) : pv F cells slots sz sk rf sg pc L (.long x.toInt64 :: .int i :: .ref a :: st) := by
  subst hq
  obtain ⟨e1, e2⟩ := pb_ix hi ht hm
  intro H ls locs hR hL hS
  have h0 := hR.2 a (by rw [hk]; exact Nat.succ_ne_zero _)
  have h1 := h0.2
  rw [hk] at h1
  refine W.last h.1 h.2.1 h1 ((h.2.2.2.2.2.2.2.2.2.2.1.tys 2 rfl).1 m (fun j => .long (sg a j).toInt64)) (fun q => by cases q) (by rw [arrV_size]; exact e2) rfl rfl dd (fun H1 e z oq => ?_)
  refine kk H1 ls _ (hR.set a (fun _ _ => rfl) (fun b hb => pb_up_ne hb) ?_ z oq) hL (hS.put z oq h0.1)
  rw [hk, pb_up_eq]
  show H1[a]? = some (arrV _ m _)
  rw [e, e1, arrV_store]
  rw [pb_updV (fun y : Int32 => Value.long y.toInt64) (sg a) (upd (sg a) t x) t x (fun j => rfl)]
theorem v_aald4 (h : pb_Fx F μ d k n) {a t m : Nat} {i : Int32} {v : Value} (hk : sk a = (4, m)) (hi : i = nI t) (ht : t < m) (hm : m < 2 ^ 31) (hr : va_rf (rf a t) = v) (dd : decode μ.2.1 pc = .ok (.aaload, 1)) (hq : pc + 1 = q) (kk : pv F cells slots sz sk rf sg q L (v :: st)) : pv F cells slots sz sk rf sg pc L (.int i :: .ref a :: st) := by
  subst hq
  subst hr
  obtain ⟨e1, e2⟩ := pb_ix hi ht hm
  intro H ls locs hR hL hS
  have h1 := (hR.2 a (by rw [hk]; exact Nat.succ_ne_zero _)).2
  rw [hk] at h1
  refine W.aald (v := va_rf (rf a t)) (ty := .object RX0) h.1 h.2.1 h1 ((h.2.2.2.2.2.2.2.2.2.2.1.tys 3 rfl).1 m (fun j => va_rf (rf a j))) rfl (fun q => by cases q) (by rw [arrV_size]; exact e2) (by rw [e1, arrV_read _ _ ht]) rfl rfl dd (kk H ls locs hR hL hS)
theorem v_aald5 (h : pb_Fx F μ d k n) {a t m : Nat} {i : Int32} {v : Value} (hk : sk a = (5, m)) (hi : i = nI t) (ht : t < m) (hm : m < 2 ^ 31) (hr : va_rf (rf a t) = v) (dd : decode μ.2.1 pc = .ok (.aaload, 1)) (hq : pc + 1 = q) (kk : pv F cells slots sz sk rf sg q L (v :: st)) : pv F cells slots sz sk rf sg pc L (.int i :: .ref a :: st) := by
  subst hq
  subst hr
  obtain ⟨e1, e2⟩ := pb_ix hi ht hm
  intro H ls locs hR hL hS
  have h1 := (hR.2 a (by rw [hk]; exact Nat.succ_ne_zero _)).2
  rw [hk] at h1
  refine W.aald (v := va_rf (rf a t)) (ty := .array .int) h.1 h.2.1 h1 ((h.2.2.2.2.2.2.2.2.2.2.1.tys 4 rfl).1 m (fun j => va_rf (rf a j))) rfl (fun q => by cases q) (by rw [arrV_size]; exact e2) (by rw [e1, arrV_read _ _ ht]) rfl rfl dd (kk H ls locs hR hL hS)
end PVR
end
section
section PVR
variable {F : pb_F} {μ : pb_M} {d k n : Nat} {cells slots sz : Nat} {sk : pb_Sk} {rf : pb_Rf} {sg : pb_Sg} {pc q : Nat} {L : List (Option Value)} {st : List Value}
theorem pb_K.same {G : pb_G} {u U : State} (hv : u.vm = U.vm) (hh : u.heap = U.heap) (h : pb_K G u) : pb_K G U := by
  have ha : u.vm.Alike U.vm := by rw [hv]; exact Vm.Alike.refl _
  obtain ⟨h1, h2, h3, h4, h5, h6, h7, h8⟩ := h
  refine ⟨h1.moved ha, ?_, ?_, fun w hw => (h4 w hw).same ?_ hv, fun q hq => ?_, fun q hq => (h6 q hq).moved ha, h7.moved ha, h8.moved ha⟩
  · have := h2.moved (U := U) ha
    rw [hh] at this
    exact this
  · have := h3.moved (U := U) ha
    rw [hh] at this
    exact this
  · have h9 := (List.mem_filter.mp hw).2
    cases w <;> first | rfl | (simp [pb_bad] at h9)
  · obtain ⟨sa, hs⟩ := h5 q hq
    exact ⟨sa, hs.same hv.symm⟩
theorem pb_K.warm {G : pb_G} {s U : State} (hW : s.WarmedH U.vm) (hz : ∀ q : Nat, q < s.heap.size → ¬ pb_own G q → U.heap[q]? = s.heap[q]?) (h : pb_K G s) : pb_K G U := by
  obtain ⟨h1, h2, h3, h4, h5, h6, h7, h8⟩ := h
  refine ⟨h1.moved hW.alike, (h2.moved hW.alike).kept hz, (h3.moved hW.alike).kept hz, fun w hw => ?_, fun q hq => ?_, fun q hq => (h6 q hq).moved hW.alike, h7.moved hW.alike, h8.moved hW.alike⟩
  · have h8 := h4 w hw
    have h9 := (List.mem_filter.mp hw).2
    cases w <;> first | exact h8.warmC hW | exact h8.warmM hW | exact h8.warmD hW | (simp [pb_bad] at h9)
  · obtain ⟨sa, hs⟩ := h5 q hq
    exact ⟨sa, hs.warm hW⟩
theorem pb_blind {G : pb_G} {av : List Value} {sz : Nat} {sk : pb_Sk} {rf : pb_Rf} {sg : pb_Sg} : FrameBlind (pb_Pc G av sz sk rf sg) := by
  rintro a U g mk ⟨h1, h2, h3, h4⟩
  exact ⟨h1, h2.same (u := U) (U := U.calling g mk a) rfl rfl, h3, h4⟩
/-- what a call needs of the tables -/
def pb_MI (μ' : pb_M) (N : Nat) : Prop := μ'.2.2.2.2 = [] ∧ Cond.instanceMethod μ'.1 ∈ tbG ∧ Cond.initialized μ'.1.cls ∈ tbG ∧ pb_code μ' ∈ tbG ∧ μ'.1.cls ≠ "java/lang/invoke/MethodHandle" ∧ μ'.1.cls ≠ "java/lang/invoke/VarHandle" ∧ (parseMethodDescriptor μ'.1.desc).map (fun d => d.parameters.length) = some N ∧ μ'.2.2.1 ≤ 40
def pb_MS (μ' : pb_M) (N : Nat) : Prop := Cond.static μ'.1 ∈ tbG ∧ Cond.initialized μ'.1.cls ∈ tbG ∧ pb_code μ' ∈ tbG ∧ μ'.1.cls ≠ "java/lang/invoke/MethodHandle" ∧ μ'.1.cls ≠ "java/lang/invoke/VarHandle" ∧ (parseMethodDescriptor μ'.1.desc).map (fun d => d.parameters.length) = some N ∧ μ'.2.2.1 ≤ 40
theorem pb_codeN {μ' : pb_M} (h : μ'.2.2.2.2 = []) : pb_code μ' = Cond.code μ'.1 μ'.2.1 μ'.2.2.1 μ'.2.2.2.1 := by
  unfold pb_code
  rw [h]
theorem pb_codeH {μ' : pb_M} (h : μ'.2.2.2.2 ≠ []) : pb_code μ' = Cond.codeWith μ'.1 μ'.2.1 μ'.2.2.1 μ'.2.2.2.1 μ'.2.2.2.2 := by
  unfold pb_code
  cases e : μ'.2.2.2.2 with
  | nil => exact absurd e h
  | cons a b => rfl
theorem pb_gin {μ' : pb_M} (h : pb_code μ' ∈ tbG) : GoodIn tbG (pb_code μ' :: tbG) := fun w hw => (List.mem_cons.mp hw).elim (fun e => by rw [e]; exact tbG_good _ h) (tbG_good w)
/-- behind a call: it came back, or threw -/
theorem pb_goon {F : pb_F} {cells slots k' n' : Nat} {pc q : Nat} {L : List (Option Value)} {st st0 : List Value} {av : Array Value} {post : pb_Post} {H : Heap} {ls : Array Slot} {locs : List Loc} (hq : pc + 3 = q) (hL : pb_L ls L) (hS : va_S (pb_own (pb_g F)) (pb_s F).heap H locs)
    (hr : vx_Run (pb_p F) (pb_l F) (pb_e F) (pb_rm F) (pb_s F) (pb_m F) (pb_args F) (pb_below F) (pb_meth F) (pb_c F) H locs cells slots k' n' (F0 (pb_m F) pc ls st0) st (pb_Qc (pb_g F) post av) (pb_XC (pb_g F) post) (pb_own (pb_g F)))
    (kr : ∀ v sz' sk' rf' sg', post (.inl v) sz' sk' rf' sg' → pv F (cells + k') (slots + n') sz' sk' rf' sg' q L (v.toList ++ st))
    (kx : ∀ E sz' sk' rf' sg', post (.inr E) sz' sk' rf' sg' → px F (cells + k') (slots + n') sz' sk' rf' sg' pc L E) : pb_W F H locs cells slots (F0 (pb_m F) pc ls st0) := by
  subst hq
  intro T hT X
  rcases hr T hT X with ⟨v, st₀, t, T', LL, h0, X', hLL, e1, e2, ⟨⟨v', sz', sk', rf', sg', hv, hp, hb⟩, hF⟩, stp⟩ | ⟨qq, st₀, t, T', LL, E, ce, h0, X', hLL, e1, e2, ⟨⟨sz', sk', rf', sg', hp, hb⟩, hF⟩, hce, hcv, hcl, stp⟩
  · cases hv
    obtain ⟨k1, k2, k3⟩ := vx_keep h0 e1 hS (fun _ _ z => z) (fun _ z => z) hLL hF
    obtain ⟨t2, a1, b1⟩ := kr v sz' sk' rf' sg' hp T'.heap ls (locs ++ LL) (by rw [e1]; exact hb) hL k3 T' rfl X'
    exact ⟨t2, stp t2 a1, b1⟩
  · obtain ⟨k1, k2, k3⟩ := vx_keep h0 e1 hS (fun _ _ z => z) (fun _ z => z) hLL hF
    obtain ⟨t2, a1, b1⟩ := kx E sz' sk' rf' sg' hp T'.heap ls (locs ++ LL) qq ce st (by rw [e1]; exact hb) hL k3 (by rw [e1]; exact hce) hcv hcl T' rfl X'
    exact ⟨t2, stp.trans a1, b1⟩
theorem pb_pre {F : pb_F} {μ : pb_M} {d k n : Nat} (h : pb_Fx F μ d k n) {av : List Value} {sz : Nat} {sk : pb_Sk} {rf : pb_Rf} {sg : pb_Sg} {H : Heap} {locs : List Loc} (hR : pb_rep (pb_g F) sz sk rf sg H) (hS : va_S (pb_own (pb_g F)) (pb_s F).heap H locs) : PreS (pb_s F) H (pb_Pc (pb_g F) av sz sk rf sg) av := by
  obtain ⟨hx, hb, hret, hml, hown, hts, hlk, hnm, htab, hfl, hK, hb0, hrm⟩ := h
  exact ⟨pb_blind, fun U hU hW => ⟨rfl, hK.warm hW (fun q h1 h2 => by rw [hU]; exact hS.2.1 q h1 h2), by rw [hU]; exact hR, by rw [hU]; exact Nat.le_trans hb0 hS.1⟩⟩
theorem pb_recv {F : pb_F} {μ : pb_M} {d k n : Nat} (h : pb_Fx F μ d k n) {sz : Nat} {sk : pb_Sk} {rf : pb_Rf} {sg : pb_Sg} {H : Heap} (hR : pb_rep (pb_g F) sz sk rf sg H) {b c : Nat} (hc : c < 9) (hk : sk b = (c + 6, 0)) : ∃ cellB : Cell, H[b]? = some cellB ∧ cellB.vm.isStatics = false ∧ (pb_s F).vm.findClass (pb_C c) = some cellB.cls := by
  obtain ⟨hx, hb, hret, hml, hown, hts, hlk, hnm, htab, hfl, hK, hb0, hrm⟩ := h
  obtain ⟨cell, q1, q2, q3, q4⟩ := pb_cellO (hR.2 b (by rw [hk]; exact Nat.succ_ne_zero _)).2 hk
  obtain ⟨hSl, hfc, kC, hkC, hkind⟩ := hK.1.1 c _ (pb_cl hc)
  exact ⟨cell, q1, by rw [q3]; rfl, by rw [q2]; exact hfc⟩
theorem pb_CB {F : pb_F} {μ μ' : pb_M} {d k n d' k' n' N i : Nat} (h : pb_Fx F μ d k n) (h0 : μ'.2.2.2.2 = []) (hini : Cond.initialized μ'.1.cls ∈ tbG) (hcode : pb_code μ' ∈ tbG) (hn1 : μ'.1.cls ≠ "java/lang/invoke/MethodHandle") (hn2 : μ'.1.cls ≠ "java/lang/invoke/VarHandle") (hN : (parseMethodDescriptor μ'.1.desc).map (fun d => d.parameters.length) = some N) (hm : μ'.2.2.1 ≤ 40) (hl : Cond.methodLink μ.1.cls i μ'.1 ∈ tbG) (hd : d' + 1 ≤ d) :
    CallB (pb_rm F) (pb_s F) (pb_args F) μ.1.cls i μ'.1 μ'.2.1 μ'.2.2.1 μ'.2.2.2.1 (pb_code μ' :: tbG) (pb_room d' k' n') k' n' N := by
  obtain ⟨hx, hb, hret, hml, hown, hts, hlk, hnm, htab, hfl, hK, hb0, hr1, hr2, hr3, hr4⟩ := h
  have hc9 := pb_codeN h0
  refine ⟨rfl, rfl, Nat.le_trans hd hr1, ?_, pay_in hts (pb_gin hcode), ?_, ?_, hts _ hini, ⟨hn1, hn2⟩, fun sig hs => ?_, hts _ hl⟩
  · show 8 + (μ'.2.2.1 + 11) + 100 * d' ≤ _
    omega
  · rw [← hc9]; exact List.mem_cons_self
  · rw [← hc9]; exact hts _ hcode
  · rw [hs] at hN
    exact (Option.some.inj hN).symm
theorem v_callV (h : pb_Fx F μ d k n) {μ' : pb_M} {d' k' n' N i b c : Nat} {av st0 : List Value} {post : pb_Post} (hM : pb_Met (pb_l F) μ' d' k' n' (.ref b :: av) sz sk rf sg post) (hm : pb_MI μ' N) (hl : Cond.methodLink μ.1.cls i μ'.1 ∈ tbG) (hsl : Cond.selects μ'.1.cls μ'.1 μ'.1 ∈ tbG) (hb : sk b = (c + 6, 0)) (hc : c < 9) (hcc : pb_C c = μ'.1.cls) (hn : av.length = N) (hst : st0 = av.reverse ++ .ref b :: st) (hW : (st.map fun v => v.category).sum ≤ 8) (hd : d' + 1 ≤ d) (hk : cells + k' ≤ k) (hs : slots + n' ≤ n) (hLn : L.length = μ.2.2.1) (dd : decode μ.2.1 pc = .ok (.invokevirtual i, 3)) (hq : pc + 3 = q)
    (kr : ∀ v sz' sk' rf' sg', post (.inl v) sz' sk' rf' sg' → pv F (cells + k') (slots + n') sz' sk' rf' sg' q L (v.toList ++ st))
    (kx : ∀ E sz' sk' rf' sg', post (.inr E) sz' sk' rf' sg' → px F (cells + k') (slots + n') sz' sk' rf' sg' pc L E) : pv F cells slots sz sk rf sg pc L st0 := by
  intro H ls locs hR hL hS
  obtain ⟨h0, m1, m2, m3, m4, m5, m6, m7⟩ := hm
  obtain ⟨hx, hb', hret, hml, hown, hts, hlk, hnm, htab, hfl, hK, hb0, hr1, hr2, hr3, hr4⟩ := id h
  refine pb_goon hq hL hS (vx_runV ⟨hx, hb', hml, hown, hts⟩ (hM (pb_g F)) ⟨pb_CB h h0 m2 m3 m4 m5 m6 m7 hl hd, hts _ m1, hts _ hsl⟩ ⟨pb_blind, by rw [← hcc]; exact pb_recv h hR hc hb, (pb_pre h hR hS).2⟩ rfl hn (by show ls.size = _; rw [hL.1, hLn]) hst (lv_room hW) dd ⟨Nat.le_trans hk hr3, Nat.le_trans hs hr4⟩) kr kx
theorem v_callS (h : pb_Fx F μ d k n) {μ' : pb_M} {d' k' n' N i : Nat} {av st0 : List Value} {post : pb_Post} (hM : pb_Met (pb_l F) μ' d' k' n' av sz sk rf sg post) (hm : pb_MS μ' N) (h0 : μ'.2.2.2.2 = []) (hl : Cond.methodLink μ.1.cls i μ'.1 ∈ tbG) (hn : av.length = N) (hst : st0 = av.reverse ++ st) (hW : (st.map fun v => v.category).sum ≤ 8) (hd : d' + 1 ≤ d) (hk : cells + k' ≤ k) (hs : slots + n' ≤ n) (hLn : L.length = μ.2.2.1) (dd : decode μ.2.1 pc = .ok (.invokestatic i, 3)) (hq : pc + 3 = q)
    (kr : ∀ v sz' sk' rf' sg', post (.inl v) sz' sk' rf' sg' → pv F (cells + k') (slots + n') sz' sk' rf' sg' q L (v.toList ++ st))
    (kx : ∀ E sz' sk' rf' sg', post (.inr E) sz' sk' rf' sg' → px F (cells + k') (slots + n') sz' sk' rf' sg' pc L E) : pv F cells slots sz sk rf sg pc L st0 := by
  intro H ls locs hR hL hS
  obtain ⟨m1, m2, m3, m4, m5, m6, m7⟩ := hm
  obtain ⟨hx, hb', hret, hml, hown, hts, hlk, hnm, htab, hfl, hK, hb0, hr1, hr2, hr3, hr4⟩ := id h
  refine pb_goon hq hL hS (vx_runS ⟨hx, hb', hml, hown, hts⟩ (hM (pb_g F)) ⟨pb_CB h h0 m2 m3 m4 m5 m6 m7 hl hd, hts _ m1⟩ (pb_pre h hR hS) rfl hn (by show ls.size = _; rw [hL.1, hLn]) hst (lv_room hW) dd ⟨Nat.le_trans hk hr3, Nat.le_trans hs hr4⟩) kr kx
theorem v_callI (h : pb_Fx F μ d k n) {μ' : pb_M} {d' k' n' N i b : Nat} {av st0 : List Value} {post : pb_Post} (hM : pb_Met (pb_l F) μ' d' k' n' (.ref b :: av) sz sk rf sg post) (hm : pb_MI μ' N) (hr0 : μ'.2.2.2.1 = none) (hy : μ'.1.name = "<init>") (hl : Cond.methodLink μ.1.cls i μ'.1 ∈ tbG) (hn : av.length = N) (hst : st0 = av.reverse ++ .ref b :: st) (hW : (st.map fun v => v.category).sum ≤ 8) (hd : d' + 1 ≤ d) (hk : cells + k' ≤ k) (hs : slots + n' ≤ n) (hLn : L.length = μ.2.2.1) (dd : decode μ.2.1 pc = .ok (.invokespecial i, 3)) (hq : pc + 3 = q)
    (kr : ∀ v sz' sk' rf' sg', post (.inl v) sz' sk' rf' sg' → pv F (cells + k') (slots + n') sz' sk' rf' sg' q L (v.toList ++ st))
    (kx : ∀ E sz' sk' rf' sg', post (.inr E) sz' sk' rf' sg' → px F (cells + k') (slots + n') sz' sk' rf' sg' pc L E) : pv F cells slots sz sk rf sg pc L st0 := by
  intro H ls locs hR hL hS
  obtain ⟨h0, m1, m2, m3, m4, m5, m6, m7⟩ := hm
  obtain ⟨hx, hb', hret, hml, hown, hts, hlk, hnm, htab, hfl, hK, hb0, hr1, hr2, hr3, hr4⟩ := id h
  have hcb := pb_CB (k' := k') (n' := n') (d' := d') h h0 m2 m3 m4 m5 m6 m7 hl hd
  rw [hr0] at hcb
  refine pb_goon hq hL hS (vx_runI ⟨hx, hb', hml, hown, hts⟩ (hM (pb_g F)) ⟨hcb, hy, hts _ m1⟩ (pb_pre h hR hS) rfl hn (by show ls.size = _; rw [hL.1, hLn]) hst (lv_room hW) dd ⟨Nat.le_trans hk hr3, Nat.le_trans hs hr4⟩) kr kx
theorem pb_CN {F : pb_F} {μ μ' : pb_M} {d k n d' k' n' N i : Nat} {host : String} (h : pb_Fx F μ d k n) (h0 : μ'.2.2.2.2 = []) (hini : Cond.initialized μ'.1.cls ∈ tbG) (hcode : pb_code μ' ∈ tbG) (hn1 : μ'.1.cls ≠ "java/lang/invoke/MethodHandle") (hn2 : μ'.1.cls ≠ "java/lang/invoke/VarHandle") (hN : (parseMethodDescriptor μ'.1.desc).map (fun d => d.parameters.length) = some N) (hm : μ'.2.2.1 ≤ 40) (hl : Cond.methodLinkNest μ.1.cls i μ'.1 host ∈ tbX) (hd : d' + 1 ≤ d) :
    va_CN (pb_rm F) (pb_s F) (pb_args F) μ.1.cls i μ'.1 host μ'.2.1 μ'.2.2.1 μ'.2.2.2.1 (pb_code μ' :: tbG) (pb_room d' k' n') k' n' N := by
  obtain ⟨hx, hb, hret, hml, hown, hts, hlk, hnm, htab, hfl, hK, hb0, hr1, hr2, hr3, hr4⟩ := h
  have hc9 := pb_codeN h0
  refine va_cnB (ws' := tbG) N hts (pb_gin hcode) (by rw [hc9]) rfl rfl (hK.2.2.2.1 _ hl) (hts _ hini) ⟨hn1, hn2, hN⟩ ⟨Nat.le_trans hd hr1, ?_⟩
  show 8 + (μ'.2.2.1 + 11) + 100 * d' ≤ _
  omega
theorem v_callSN (h : pb_Fx F μ d k n) {μ' : pb_M} {d' k' n' N i : Nat} {host : String} {av st0 : List Value} {post : pb_Post} (hM : pb_Met (pb_l F) μ' d' k' n' av sz sk rf sg post) (hm : pb_MS μ' N) (h0 : μ'.2.2.2.2 = []) (hl : Cond.methodLinkNest μ.1.cls i μ'.1 host ∈ tbX) (hn : av.length = N) (hst : st0 = av.reverse ++ st) (hW : (st.map fun v => v.category).sum ≤ 8) (hd : d' + 1 ≤ d) (hk : cells + k' ≤ k) (hs : slots + n' ≤ n) (hLn : L.length = μ.2.2.1) (dd : decode μ.2.1 pc = .ok (.invokestatic i, 3)) (hq : pc + 3 = q)
    (kr : ∀ v sz' sk' rf' sg', post (.inl v) sz' sk' rf' sg' → pv F (cells + k') (slots + n') sz' sk' rf' sg' q L (v.toList ++ st))
    (kx : ∀ E sz' sk' rf' sg', post (.inr E) sz' sk' rf' sg' → px F (cells + k') (slots + n') sz' sk' rf' sg' pc L E) : pv F cells slots sz sk rf sg pc L st0 := by
  intro H ls locs hR hL hS
  obtain ⟨m1, m2, m3, m4, m5, m6, m7⟩ := hm
  obtain ⟨hx, hb', hret, hml, hown, hts, hlk, hnm, htab, hfl, hK, hb0, hr1, hr2, hr3, hr4⟩ := id h
  refine pb_goon hq hL hS (vx_runSN ⟨hx, hb', hml, hown, hts⟩ (hM (pb_g F)) ⟨pb_CN h h0 m2 m3 m4 m5 m6 m7 hl hd, hts _ m1, True.intro⟩ (pb_pre h hR hS) rfl hn (by show ls.size = _; rw [hL.1, hLn]) hst (lv_room hW) dd ⟨Nat.le_trans hk hr3, Nat.le_trans hs hr4⟩) kr kx
theorem v_callIN (h : pb_Fx F μ d k n) {μ' : pb_M} {d' k' n' N i b : Nat} {host : String} {av st0 : List Value} {post : pb_Post} (hM : pb_Met (pb_l F) μ' d' k' n' (.ref b :: av) sz sk rf sg post) (hm : pb_MI μ' N) (hr0 : μ'.2.2.2.1 = none) (hy : μ'.1.name = "<init>") (hl : Cond.methodLinkNest μ.1.cls i μ'.1 host ∈ tbX) (hn : av.length = N) (hst : st0 = av.reverse ++ .ref b :: st) (hW : (st.map fun v => v.category).sum ≤ 8) (hd : d' + 1 ≤ d) (hk : cells + k' ≤ k) (hs : slots + n' ≤ n) (hLn : L.length = μ.2.2.1) (dd : decode μ.2.1 pc = .ok (.invokespecial i, 3)) (hq : pc + 3 = q)
    (kr : ∀ v sz' sk' rf' sg', post (.inl v) sz' sk' rf' sg' → pv F (cells + k') (slots + n') sz' sk' rf' sg' q L (v.toList ++ st))
    (kx : ∀ E sz' sk' rf' sg', post (.inr E) sz' sk' rf' sg' → px F (cells + k') (slots + n') sz' sk' rf' sg' pc L E) : pv F cells slots sz sk rf sg pc L st0 := by
  intro H ls locs hR hL hS
  obtain ⟨h0, m1, m2, m3, m4, m5, m6, m7⟩ := hm
  obtain ⟨hx, hb', hret, hml, hown, hts, hlk, hnm, htab, hfl, hK, hb0, hr1, hr2, hr3, hr4⟩ := id h
  have hcb := pb_CN (k' := k') (n' := n') (d' := d') h h0 m2 m3 m4 m5 m6 m7 hl hd
  rw [hr0] at hcb
  refine pb_goon hq hL hS (vx_runIN ⟨hx, hb', hml, hown, hts⟩ (hM (pb_g F)) ⟨hcb, hy, hts _ m1⟩ (pb_pre h hR hS) rfl hn (by show ls.size = _; rw [hL.1, hLn]) hst (lv_room hW) dd ⟨Nat.le_trans hk hr3, Nat.le_trans hs hr4⟩) kr kx
/-- a law's own helper, that has handlers -/
theorem v_callSX (h : pb_Fx F μ d k n) {μ' : pb_M} {d' k' n' N i : Nat} {av st0 : List Value} {post : pb_Post} (hM : pb_Met (pb_l F) μ' d' k' n' av sz sk rf sg post) (hm : pb_MS μ' N) (h0 : μ'.2.2.2.2 ≠ []) (hl : Cond.methodLink μ.1.cls i μ'.1 ∈ tbG) (hn : av.length = N) (hst : st0 = av.reverse ++ st) (hW : (st.map fun v => v.category).sum ≤ 8) (hd : d' + 1 ≤ d) (hk : cells + k' ≤ k) (hs : slots + n' ≤ n) (hLn : L.length = μ.2.2.1) (dd : decode μ.2.1 pc = .ok (.invokestatic i, 3)) (hq : pc + 3 = q)
    (kr : ∀ v sz' sk' rf' sg', post (.inl v) sz' sk' rf' sg' → pv F (cells + k') (slots + n') sz' sk' rf' sg' q L (v.toList ++ st))
    (kx : ∀ E sz' sk' rf' sg', post (.inr E) sz' sk' rf' sg' → px F (cells + k') (slots + n') sz' sk' rf' sg' pc L E) : pv F cells slots sz sk rf sg pc L st0 := by
  intro H ls locs hR hL hS
  obtain ⟨m1, m2, m3, m4, m5, m6, m7⟩ := hm
  obtain ⟨hx, hb', hret, hml, hown, hts, hlk, hnm, htab, hfl, hK, hb0, hr1, hr2, hr3, hr4⟩ := id h
  have hc9 := pb_codeH h0
  refine pb_goon hq hL hS (vx_runSX ⟨hx, hb', hml, hown, hts⟩ (hM (pb_g F)) (hh := μ'.2.2.2.2) (bytes := μ'.2.1) (maxL := μ'.2.2.1) (ret := μ'.2.2.2.1) ⟨⟨rfl, rfl, Nat.le_trans hd hr1, ?_, pay_in hts (pb_gin m3), ?_⟩, ?_, hts _ m2, ⟨m4, m5⟩, fun sig hs9 => ?_, hts _ hl, hts _ m1⟩ (pb_pre h hR hS) rfl hn (by show ls.size = _; rw [hL.1, hLn]) hst (lv_room hW) dd ⟨Nat.le_trans hk hr3, Nat.le_trans hs hr4⟩) kr kx
  · show 8 + (μ'.2.2.1 + 11) + 100 * d' ≤ _
    omega
  · rw [← hc9]; exact List.mem_cons_self
  · rw [← hc9]; exact hts _ m3
  · rw [hs9] at m6
    exact (Option.some.inj m6).symm
end PVR
end
section
section PVR
variable {F : pb_F} {μ : pb_M} {d k n : Nat} {cells slots sz : Nat} {sk : pb_Sk} {rf : pb_Rf} {sg : pb_Sg} {pc q : Nat} {L : List (Option Value)} {st : List Value}
theorem pb_lv (av : List Value) : ∀ (i : Nat), (∀ v ∈ av, v.category = 1) → ∀ (j : Nat) (v : Value), av[j]? = some v → (i + j, v) ∈ lv_args i av := by
  induction av with
  | nil => intro i _ j v h; simp at h
  | cons w t ih =>
    intro i hc j v h
    have c1 : ¬ w.category = 2 := by rw [hc w List.mem_cons_self]; decide
    unfold lv_args
    rw [if_neg c1]
    cases j with
    | zero =>
      have : w = v := by simpa using h
      subst this
      exact List.mem_cons_self
    | succ j =>
      have h' : t[j]? = some v := by simpa using h
      have := ih (i + 1) (fun x hx => hc x (List.mem_cons_of_mem _ hx)) j v h'
      rw [show i + 1 + j = i + (j + 1) by omega] at this
      exact List.mem_cons_of_mem _ this
theorem pb_sl (av : List Value) (hc : ∀ v ∈ av, v.category = 1) : (lg_sl av).length = av.length := by
  induction av with
  | nil => rfl
  | cons w t ih =>
    have c1 : ¬ w.category = 2 := by rw [hc w List.mem_cons_self]; decide
    have := ih (fun x hx => hc x (List.mem_cons_of_mem _ hx))
    unfold lg_sl at this ⊢
    rw [List.flatMap_cons, if_neg c1]
    simp [this]
def pb_L0 (av : List Value) (n : Nat) : List (Option Value) := av.map some ++ List.replicate (n - av.length) none
theorem pb_entry {av : List Value} {n : Nat} (hc : ∀ v ∈ av, v.category = 1) (hn : av.length ≤ n) : pb_L ((lg_sl av ++ List.replicate (n - (lg_sl av).length) Slot.unset).toArray) (pb_L0 av n) := by
  have h := lv_entry av (n := n) (by rw [pb_sl av hc]; exact hn)
  refine ⟨?_, h.2.1, fun i v hi => ?_⟩
  · rw [h.1]
    unfold pb_L0
    simp
    omega
  · have hi2 : av[i]? = some v := by
      unfold pb_L0 at hi
      by_cases e : i < av.length
      · rw [List.getElem?_append_left (by simpa using e)] at hi
        simpa using hi
      · rw [List.getElem?_append_right (by simpa using Nat.le_of_not_lt e)] at hi
        have := List.mem_of_getElem? hi
        have := List.eq_of_mem_replicate this
        cases this
    have h3 := pb_lv av 0 hc i v hi2
    rw [Nat.zero_add] at h3
    exact ⟨h.2.2 _ h3, hc v (List.mem_of_getElem? hi2)⟩
theorem pb_startF {l : Launch} {G : pb_G} {p : Program} {e : Env} {s : State} {m : MethodId} {args : Array Value} {below : List Frame} {meth : Method} {c : Code} {s₁ : State} {μ : pb_M} {av : List Value} {post : pb_Post} (hfl : l.stackTraces = false) (hc : ∀ v ∈ av, v.category = 1) (hle : av.length ≤ μ.2.2.1)
    (body : ∀ F : pb_F, pb_l F = l → pb_Fx F μ d k n → pb_Fq F k n post → pv F 0 0 sz sk rf sg 0 (pb_L0 av μ.2.2.1) [])
    (B : BodyLoose p l μ.1 (headSpec (pb_code μ :: tbG) (pb_room d k n)) μ.2.1 μ.2.2.1 μ.2.2.2.1 e s m args below meth c s₁) (hml : c.maxLocals = μ.2.2.1) (htab : c.exceptionTable.toList = tableOf μ.2.2.2.2) (hp : pb_Pc G av sz sk rf sg args s) :
    W p l e (headSpec (pb_code μ :: tbG) (pb_room d k n)).room s m args below meth c s.heap [] 0 0 (vx_MQ below (pb_Qc G post) (pb_XC G post) args s k n (pb_own G)) (entryFrame m args μ.2.2.1) := by
  obtain ⟨rfl, hK, hR, hb0⟩ := hp
  have hts := atoms_spec (ws := pb_code μ :: tbG) B.pre
  rw [lg_entry_eq]
  exact body ((p, l, e, (headSpec (pb_code μ :: tbG) (pb_room d k n)).room, s, m, av.toArray, below, meth, c), vx_MQ below (pb_Qc G post) (pb_XC G post) av.toArray s k n (pb_own G), G) rfl
    ⟨B.exec, B.bytes, B.returns, hml, findClass_of_methodNamed B.named, fun w hw => hts w (List.mem_cons_of_mem _ hw), B.notSynchronized, (name_of_methodNamed B.named B.method).1, htab, hfl, hK, hb0, Nat.le_refl _, Nat.le_refl _, Nat.le_refl _, Nat.le_refl _⟩ rfl
    s.heap _ [] hR (pb_entry hc hle) va_S.rf
/-- a contract out of a walk -/
theorem pb_start {l : Launch} {μ : pb_M} {av : List Value} {post : pb_Post} (hfl : l.stackTraces = false) (hy : plainName μ.1.cls = true) (h0 : μ.2.2.2.2 = []) (hc : ∀ v ∈ av, v.category = 1) (hle : av.length ≤ μ.2.2.1)
    (body : ∀ F : pb_F, pb_l F = l → pb_Fx F μ d k n → pb_Fq F k n post → pv F 0 0 sz sk rf sg 0 (pb_L0 av μ.2.2.1) []) : pb_Met l μ d k n av sz sk rf sg post := by
  intro G
  refine vx_ofW (cc := μ.2.1) (maxL := μ.2.2.1) (ret := μ.2.2.2.1) (ws' := tbG) hy (by rw [pb_codeN h0]) ?_
  intro p e s m args below meth c s₁ B hml htab hp
  refine pb_startF hfl hc hle body B hml ?_ hp
  rw [h0]
  exact List.eq_nil_iff_forall_not_mem.mpr fun x hx => htab x hx
theorem pb_startH {l : Launch} {μ : pb_M} {av : List Value} {post : pb_Post} (hfl : l.stackTraces = false) (hy : plainName μ.1.cls = true) (h0 : μ.2.2.2.2 ≠ []) (hc : ∀ v ∈ av, v.category = 1) (hle : av.length ≤ μ.2.2.1)
    (body : ∀ F : pb_F, pb_l F = l → pb_Fx F μ d k n → pb_Fq F k n post → pv F 0 0 sz sk rf sg 0 (pb_L0 av μ.2.2.1) []) : pb_Met l μ d k n av sz sk rf sg post := by
  intro G
  refine vx_ofWH (cc := μ.2.1) (maxL := μ.2.2.1) (ret := μ.2.2.2.1) (ws' := tbG) hy (by rw [pb_codeH h0]) ?_
  intro p e s m args below meth c s₁ B hml hp
  refine pb_startF hfl hc hle body B hml ?_ hp
  exact vx_table (x := μ.1) B (atoms_spec (ws := pb_code μ :: tbG) B.pre _ (by rw [pb_codeH h0]; exact List.mem_cons_self))
theorem v_iret (h : pb_Fx F μ d k n) {post : pb_Post} {x : Int32} {ty : FieldType} (hQ : pb_Fq F k n post) (hr : μ.2.2.2.1 = some ty) (hn : narrow ty (.int x) = .int x) (dd : decode μ.2.1 pc = .ok (.ireturn, 1)) (hc : cells ≤ k) (hs : slots ≤ n) (hp : post (.inl (some (.int x))) sz sk rf sg) : pv F cells slots sz sk rf sg pc L [.int x] := by
  intro H ls locs hR hL hS
  obtain ⟨hx, hb, hret, hml, hown, hts, hlk, hnm, htab, hfl, hK, hb0, hrm⟩ := h
  show W _ _ _ _ _ _ _ _ _ _ _ _ _ _ (pb_Q F) _
  rw [hQ]
  refine W.widen (k := k) (n := n) hc hs (vx_ret (W.zret hx hb (hret.trans hr) hn (fun t ht hW => ⟨⟨some (.int x), sz, sk, rf, sg, rfl, hp, by rw [ht]; exact hR⟩, hS.F ht⟩) hS.2.2 dd hlk))
theorem v_vret (h : pb_Fx F μ d k n) {post : pb_Post} (hQ : pb_Fq F k n post) (hr : μ.2.2.2.1 = none) (dd : decode μ.2.1 pc = .ok (.return_, 1)) (hc : cells ≤ k) (hs : slots ≤ n) (hp : post (.inl none) sz sk rf sg) : pv F cells slots sz sk rf sg pc L [] := by
  intro H ls locs hR hL hS
  obtain ⟨hx, hb, hret, hml, hown, hts, hlk, hnm, htab, hfl, hK, hb0, hrm⟩ := h
  show W _ _ _ _ _ _ _ _ _ _ _ _ _ _ (pb_Q F) _
  rw [hQ]
  refine W.widen (k := k) (n := n) hc hs (vx_ret (W.vret hx hb (hret.trans hr) (fun t ht hW => ⟨⟨none, sz, sk, rf, sg, rfl, hp, by rw [ht]; exact hR⟩, hS.F ht⟩) hS.2.2 dd hlk))
theorem v_aret (h : pb_Fx F μ d k n) {post : pb_Post} {a : Nat} {C : String} (hQ : pb_Fq F k n post) (hr : μ.2.2.2.1 = some (.object C)) (dd : decode μ.2.1 pc = .ok (.areturn, 1)) (hc : cells ≤ k) (hs : slots ≤ n) (hp : post (.inl (some (.ref a))) sz sk rf sg) : pv F cells slots sz sk rf sg pc L [.ref a] := by
  intro H ls locs hR hL hS
  obtain ⟨hx, hb, hret, hml, hown, hts, hlk, hnm, htab, hfl, hK, hb0, hrm⟩ := h
  show W _ _ _ _ _ _ _ _ _ _ _ _ _ _ (pb_Q F) _
  rw [hQ]
  refine W.widen (k := k) (n := n) hc hs (vx_ret (W.aret hx hb (hret.trans hr) (Or.inl ⟨C, rfl⟩) (Or.inr ⟨a, rfl⟩) (fun t ht hW => ⟨⟨some (.ref a), sz, sk, rf, sg, rfl, hp, by rw [ht]; exact hR⟩, hS.F ht⟩) hS.2.2 dd hlk))
/-- an exception goes on to the caller: no handler here -/
theorem v_out (h : pb_Fx F μ d k n) {post : pb_Post} {E : String} (hQ : pb_Fq F k n post) (h0 : μ.2.2.2.2 = []) (hc : cells ≤ k) (hs : slots ≤ n) (hp : post (.inr E) sz sk rf sg) : px F cells slots sz sk rf sg pc L E := by
  intro H ls locs qq ce rest hR hL hS hce hv hcl
  obtain ⟨hx, hb, hret, hml, hown, hts, hlk, hnm, htab, hfl, hK, hb0, hrm⟩ := h
  show vx_W _ _ _ _ _ _ _ _ _ _ _ _ _ _ (pb_Q F) _ _
  rw [hQ]
  refine vx_out (fun x hx9 => ?_) hlk hce hv hcl (fun t ht ha => ⟨⟨sz, sk, rf, sg, hp, by rw [ht]; exact hR⟩, hS.F ht⟩) hS.2.2 hc hs
  rw [htab, h0] at hx9
  cases hx9
/-- what the making and throwing of X with a text needs of the tables -/
def pb_TH (own : String) (X : String) (ik ic : Nat) : Prop := Bundle.fit X = true ∧ Cond.classLink own ik X ∈ tbG ∧ Cond.initialized X ∈ tbG ∧ (∀ w ∈ (vx_atS own ic X ["java/lang/RuntimeException", "java/lang/Exception"]).filter goodWord, w ∈ tbG) ∧ (∀ w ∈ (vx_atS own ic X ["java/lang/RuntimeException", "java/lang/Exception"]).filter (fun w => !goodWord w), w ∈ tbX ∧ w.onTables = true) ∧ ∀ w ∈ Cond.classLink own ik X :: Cond.initialized X :: vx_atS own ic X ["java/lang/RuntimeException", "java/lang/Exception"], vx_ot w = true
theorem v_throw (h : pb_Fx F μ d k n) {post : pb_Post} {X text : String} {ik ic is : Nat} (hQ : pb_Fq F k n post) (h0 : μ.2.2.2.2 = []) (hT : pb_TH μ.1.cls X ik ic) (hst : (μ.1.cls, is, text) ∈ pb_strs) (hLn : L.length = μ.2.2.1) (d0 : decode μ.2.1 pc = .ok (.new ik, 3)) (d3 : decode μ.2.1 (pc + 3) = .ok (.dup, 1)) (d4 : decode μ.2.1 (pc + 4) = .ok (.ldc is, 2)) (d6 : decode μ.2.1 (pc + 6) = .ok (.invokespecial ic, 3)) (d9 : decode μ.2.1 (pc + 9) = .ok (.athrow, 1)) (hd : 6 ≤ d) (hW : (st.map fun v => v.category).sum ≤ 8) (hc : cells + 1 ≤ k) (hs : slots + 6 ≤ n) (hp : ∀ sz', sz ≤ sz' → post (.inr X) sz' sk rf sg) : pv F cells slots sz sk rf sg pc L st := by
  intro H ls locs hR hL hS
  obtain ⟨t1, t2, t3, t4, t5, t6⟩ := hT
  obtain ⟨hx, hb, hret, hml, hown, hts, hlk, hnm, htab, hfl, hK, hb0, hr1, hr2, hr3, hr4⟩ := h
  obtain ⟨sa, hsa⟩ := hK.2.2.2.2.1 _ hst
  show W _ _ _ _ _ _ _ _ _ _ _ _ _ _ (pb_Q F) _
  rw [hQ]
  refine vx_throwS hx hb hfl (names := ["java/lang/RuntimeException", "java/lang/Exception"]) hown t1 (by decide +kernel) (hts _ t2) (hts _ t3) hsa (fun w hw => ?_) t6 hK.2.1 hK.2.2.1 hS (by rw [hL.1, hLn, hml]) d0 d3 d4 d6 d9 (fun x hx9 => ?_) ?_ ?_ (Nat.le_trans hc hr3) (Nat.le_trans hs hr4) hlk (fun t ha hz ho => ?_) hS.2.2 hc hs
  · by_cases g : goodWord w = true
    · exact hts _ (t4 w (List.mem_filter.mpr ⟨hw, g⟩))
    · have g' : (!goodWord w) = true := by
        cases e : goodWord w
        · rfl
        · exact absurd e g
      obtain ⟨a1, a2⟩ := t5 w (List.mem_filter.mpr ⟨hw, g'⟩)
      exact (hK.2.2.2.1 w a1).use a2
  · rw [htab, h0] at hx9
    cases hx9
  · show 2 + 3 < _
    omega
  · show _ + (13 * (2 + 1) + 43) ≤ _
    omega
  · have h2 := hR.same hz ho
    exact ⟨⟨_, sk, rf, sg, hp _ (by rw [← hR.1]; exact hz), h2⟩, Nat.le_trans hS.1 hz, fun q h1 h2 => by rw [ho q (Nat.lt_of_lt_of_le h1 hS.1)]; exact hS.2.1 q h1 h2⟩
theorem v_throwW (h : pb_Fx F μ d k n) {post : pb_Post} {X text : String} {ik ic is : Nat} (hQ : pb_Fq F k n post) (h0 : μ.2.2.2.2 = []) (hT : pb_TH μ.1.cls X ik ic) (hst : (μ.1.cls, is, text) ∈ pb_strs) (hLn : L.length = μ.2.2.1) (d0 : decode μ.2.1 pc = .ok (.new ik, 3)) (d3 : decode μ.2.1 (pc + 3) = .ok (.dup, 1)) (d4 : decode μ.2.1 (pc + 4) = .ok (.ldc_w is, 3)) (d7 : decode μ.2.1 (pc + 7) = .ok (.invokespecial ic, 3)) (d10 : decode μ.2.1 (pc + 10) = .ok (.athrow, 1)) (hd : 6 ≤ d) (hW : (st.map fun v => v.category).sum ≤ 8) (hc : cells + 1 ≤ k) (hs : slots + 6 ≤ n) (hp : ∀ sz', sz ≤ sz' → post (.inr X) sz' sk rf sg) : pv F cells slots sz sk rf sg pc L st := by
  intro H ls locs hR hL hS
  obtain ⟨t1, t2, t3, t4, t5, t6⟩ := hT
  obtain ⟨hx, hb, hret, hml, hown, hts, hlk, hnm, htab, hfl, hK, hb0, hr1, hr2, hr3, hr4⟩ := h
  obtain ⟨sa, hsa⟩ := hK.2.2.2.2.1 _ hst
  show W _ _ _ _ _ _ _ _ _ _ _ _ _ _ (pb_Q F) _
  rw [hQ]
  refine vx_throwSW hx hb hfl (names := ["java/lang/RuntimeException", "java/lang/Exception"]) hown t1 (by decide +kernel) (hts _ t2) (hts _ t3) hsa (fun w hw => ?_) t6 hK.2.1 hK.2.2.1 hS (by rw [hL.1, hLn, hml]) d0 d3 d4 d7 d10 (fun x hx9 => ?_) ?_ ?_ (Nat.le_trans hc hr3) (Nat.le_trans hs hr4) hlk (fun t ha hz ho => ?_) hS.2.2 hc hs
  · by_cases g : goodWord w = true
    · exact hts _ (t4 w (List.mem_filter.mpr ⟨hw, g⟩))
    · have g' : (!goodWord w) = true := by
        cases e : goodWord w
        · rfl
        · exact absurd e g
      obtain ⟨a1, a2⟩ := t5 w (List.mem_filter.mpr ⟨hw, g'⟩)
      exact (hK.2.2.2.1 w a1).use a2
  · rw [htab, h0] at hx9
    cases hx9
  · show 2 + 3 < _
    omega
  · show _ + (13 * (2 + 1) + 43) ≤ _
    omega
  · have h2 := hR.same hz ho
    exact ⟨⟨_, sk, rf, sg, hp _ (by rw [← hR.1]; exact hz), h2⟩, Nat.le_trans hS.1 hz, fun q h1 h2 => by rw [ho q (Nat.lt_of_lt_of_le h1 hS.1)]; exact hS.2.1 q h1 h2⟩
/-- the first handler whose class is E -/
theorem v_catch (h : pb_Fx F μ d k n) {E : String} {a1 a2 hp9 ct : Nat} (pre suf : List (Nat × Nat × Nat × Nat)) (hsp : μ.2.2.2.2 = pre ++ (a1, a2, hp9, ct) :: suf) (hpass : ∀ z ∈ pre, z.2.2.2 ≠ 0 ∧ ∃ nm : String, Cond.classLink μ.1.cls z.2.2.2 nm ∈ tbG ∧ (E, nm) ∈ pb_ncs) (h0 : ct ≠ 0) (hlink : Cond.classLink μ.1.cls ct E ∈ tbG) (hcast : Cond.castable E E ∈ tbX) (hcov9 : covers (⟨a1, a2, hp9, ct⟩ : ExceptionTableEntry) pc = true) (kk : ∀ qq : Nat, pv F cells slots sz sk rf sg hp9 L [.ref qq]) : px F cells slots sz sk rf sg pc L E := by
  intro H ls locs qq ce rest hR hL hS hce hv hcl
  obtain ⟨hx, hb, hret, hml, hown, hts, hlk, hnm, htab, hfl, hK, hb0, hrm⟩ := h
  refine vx_catch (name := E) hown (tableOf pre) ⟨a1, a2, hp9, ct⟩ (tableOf suf) (by rw [htab, hsp]; unfold tableOf; rw [List.map_append, List.map_cons]) (fun z hz => ?_) hcov9 h0 (hts _ hlink) ((hK.2.2.2.1 _ hcast).use rfl) hce hv hcl (kk qq H ls locs hR hL hS)
  unfold tableOf at hz
  obtain ⟨y, hy, rfl⟩ := List.mem_map.mp hz
  obtain ⟨b1, nm, b2, b3⟩ := hpass y hy
  exact Or.inr ⟨b1, nm, hts _ b2, hK.2.2.2.2.2.1 _ b3⟩
-- new cells
theorem pb_dflt {c j : Nat} (h : pb_isI (pb_ty c j) = true ∨ pb_isR (pb_ty c j) = true) : defaultValue (pb_ty c j) = pb_V c (fun _ => none) (fun _ => 0) j := by
  unfold pb_V
  rcases h with h | h
  · rw [if_pos h, pb_isI_int h]; rfl
  · rw [if_neg (by rw [pb_isR_I h]; decide)]
    cases e : pb_ty c j <;> first | rfl | (rw [e] at h; simp [pb_isR] at h)
theorem v_new (h : pb_Fx F μ d k n) {i c : Nat} (hc9 : c < 9) (hw : Cond.classLink μ.1.cls i (pb_C c) ∈ tbG) (hi : Cond.instantiable (pb_C c) (pb_N c) ∈ tbG) (hini : Cond.initialized (pb_C c) ∈ tbG) (hty : ∀ j, j < pb_N c → (pb_isI (pb_ty c j) = true ∨ pb_isR (pb_ty c j) = true)) (hc : cells + 1 ≤ k) (hs : slots + pb_N c ≤ n) (dd : decode μ.2.1 pc = .ok (.new i, 3)) (hq : pc + 3 = q) (kk : pv F (cells + 1) (slots + pb_N c) (sz + 1) (pb_uk sk sz (c + 6, 0)) (pb_u0 rf sz none) (pb_u0 sg sz 0) q L (.ref sz :: st)) : pv F cells slots sz sk rf sg pc L st := by
  subst hq
  obtain ⟨hx, hb, hret, hml, hown, hts, hlk, hnm, htab, hfl, hK, hb0, hr1, hr2, hr3, hr4⟩ := h
  intro H ls locs hR hL hS
  have hKn := hK.1.1 c _ (pb_cl hc9)
  refine W.newcK hx hb hown (hts _ hw) (hts _ hi) (hts _ hini) rfl dd (Nat.le_trans hc hr3) (Nat.le_trans hs hr4) hKn.2.1 hR.1 fun H1 kC hkC e1 z1 o1 => ?_
  refine kk H1 ls locs (hR.push (fun b hb => pb_u0_ne hb) (fun b hb => pb_u0_ne hb) (Nat.le_trans hb0 hS.1) ?_ (by rw [z1, hR.1]) (fun q hq => o1 q (by rw [← hR.1]; exact hq))) hL ⟨Nat.le_trans hS.1 (by rw [z1, hR.1]; omega), fun x h1 h2 => (o1 x (by rw [← hR.1]; exact Nat.lt_of_lt_of_le h1 hS.1)).trans (hS.2.1 x h1 h2), hS.2.2⟩
  rw [pb_u0_eq, pb_u0_eq]
  exact t_OB.to (u_born (pb_ty c) hts (pb_lay hc9) hKn hkC e1 (pb_tok hc9)) (fun j hj => pb_dflt (hty j hj))
theorem v_newai (h : pb_Fx F μ d k n) {x : Int32} {m : Nat} (hw : Cond.arrayClass .int ∈ tbG) (hm : x = nI m) (hm2 : m ≤ 100000) (hc : cells + 1 ≤ k) (hs : slots + m ≤ n) (dd : decode μ.2.1 pc = .ok (.newarray .int, 2)) (hq : pc + 2 = q) (kk : pv F (cells + 1) (slots + m) (sz + 1) (pb_uk sk sz (1, m)) (pb_u0 rf sz none) (pb_u0 sg sz 0) q L (.ref sz :: st)) : pv F cells slots sz sk rf sg pc L (.int x :: st) := by
  subst hq
  obtain ⟨hx, hb, hret, hml, hown, hts, hlk, hnm, htab, hfl, hK, hb0, hr1, hr2, hr3, hr4⟩ := h
  intro H ls locs hR hL hS
  refine va_newaK hx hb (atype := .int) (hts _ hw) rfl dd rfl (N := m) (by rw [hm]; exact nI_pos (by omega)) (by rw [hm]; exact nI_clamp (by omega)) (by show m * 4 ≤ _; omega) (Nat.le_trans hc hr3) (Nat.le_trans hs hr4) hR.1 fun H1 cA e1 z1 o1 hAr hNm => ?_
  have hcA : cA = (pb_g F).2.1 1 := Option.some.inj (hNm.symm.trans (hK.tys 0 rfl).2)
  subst hcA
  refine kk H1 ls locs (hR.push (fun b hb => pb_u0_ne hb) (fun b hb => pb_u0_ne hb) (Nat.le_trans hb0 hS.1) ?_ (by rw [z1, hR.1]) (fun q hq => o1 q (by rw [← hR.1]; exact hq))) hL ⟨Nat.le_trans hS.1 (by rw [z1, hR.1]; omega), fun x h1 h2 => (o1 x (by rw [← hR.1]; exact Nat.lt_of_lt_of_le h1 hS.1)).trans (hS.2.1 x h1 h2), hS.2.2⟩
  rw [pb_u0_eq, pb_u0_eq]
  exact e1
theorem v_newaz (h : pb_Fx F μ d k n) {x : Int32} {m : Nat} (hw : Cond.arrayClass .boolean ∈ tbG) (hm : x = nI m) (hm2 : m ≤ 100000) (hc : cells + 1 ≤ k) (hs : slots + m ≤ n) (dd : decode μ.2.1 pc = .ok (.newarray .boolean, 2)) (hq : pc + 2 = q) (kk : pv F (cells + 1) (slots + m) (sz + 1) (pb_uk sk sz (2, m)) (pb_u0 rf sz none) (pb_u0 sg sz 0) q L (.ref sz :: st)) : pv F cells slots sz sk rf sg pc L (.int x :: st) := by
  subst hq
  obtain ⟨hx, hb, hret, hml, hown, hts, hlk, hnm, htab, hfl, hK, hb0, hr1, hr2, hr3, hr4⟩ := h
  intro H ls locs hR hL hS
  refine va_newaK hx hb (atype := .boolean) (hts _ hw) rfl dd rfl (N := m) (by rw [hm]; exact nI_pos (by omega)) (by rw [hm]; exact nI_clamp (by omega)) (by show m * 1 ≤ _; omega) (Nat.le_trans hc hr3) (Nat.le_trans hs hr4) hR.1 fun H1 cA e1 z1 o1 hAr hNm => ?_
  have hcA : cA = (pb_g F).2.1 2 := Option.some.inj (hNm.symm.trans (hK.tys 1 rfl).2)
  subst hcA
  refine kk H1 ls locs (hR.push (fun b hb => pb_u0_ne hb) (fun b hb => pb_u0_ne hb) (Nat.le_trans hb0 hS.1) ?_ (by rw [z1, hR.1]) (fun q hq => o1 q (by rw [← hR.1]; exact hq))) hL ⟨Nat.le_trans hS.1 (by rw [z1, hR.1]; omega), fun x h1 h2 => (o1 x (by rw [← hR.1]; exact Nat.lt_of_lt_of_le h1 hS.1)).trans (hS.2.1 x h1 h2), hS.2.2⟩
  rw [pb_u0_eq, pb_u0_eq]
  exact e1
theorem v_objInit (h : pb_Fx F μ d k n) {i a : Nat} (hw : Cond.methodLink μ.1.cls i objectInit ∈ tbG) (hin : Cond.instanceMethod objectInit ∈ tbG) (hcode : Cond.code objectInit ⟨#[0xb1]⟩ 1 none ∈ tbG) (hd : 1 ≤ d) (hW : (st.map fun v => v.category).sum ≤ 8) (hLn : L.length = μ.2.2.1) (dd : decode μ.2.1 pc = .ok (.invokespecial i, 3)) (hq : pc + 3 = q) (kk : pv F cells slots sz sk rf sg q L st) : pv F cells slots sz sk rf sg pc L (.ref a :: st) := by
  subst hq
  obtain ⟨hx, hb, hret, hml, hown, hts, hlk, hnm, htab, hfl, hK, hb0, hr1, hr2, hr3, hr4⟩ := h
  intro H ls locs hR hL hS
  refine W.objInit hx hb hown (hts _ hw) (hts _ hin) (hts _ hcode) rfl (by show ls.size = _; rw [hL.1, hLn, hml]) rfl dd (Nat.le_trans hd hr1) ?_ (kk H ls locs hR hL hS)
  have := lv_room (m := pb_m F) (pc := pc) (ls := ls) (rest := .ref a :: st) hW
  omega
theorem v_max (h : pb_Fx F μ d k n) {i : Nat} {x y : Int32} (hw : Cond.methodLink μ.1.cls i Lib.Math.max.name ∈ tbG) (hst : Cond.static Lib.Math.max.name ∈ tbG) (hini : Cond.initialized "java/lang/Math" ∈ tbG) (hcode : Cond.code Lib.Math.max.name Lib.Math.max.code 2 (some .int) ∈ tbG) (hd : 1 ≤ d) (hW : (st.map fun v => v.category).sum ≤ 8) (hc : cells ≤ k) (hs : slots ≤ n) (hLn : L.length = μ.2.2.1) (dd : decode μ.2.1 pc = .ok (.invokestatic i, 3)) (hq : pc + 3 = q) (kk : pv F cells slots sz sk rf sg q L (.int (if x < y then y else x) :: st)) : pv F cells slots sz sk rf sg pc L (.int y :: .int x :: st) := by
  subst hq
  obtain ⟨hx, hb, hret, hml, hown, hts, hlk, hnm, htab, hfl, hK, hb0, hr1, hr2, hr3, hr4⟩ := h
  intro H ls locs hR hL hS
  exact va_mmax hx hb (by rw [hml, hL.1, hLn]) hown (hts _ hw) (hts _ hst) (hts _ hini) (hts _ hcode) (Nat.le_trans hd hr1) (by omega) (Nat.le_trans hc hr3) (Nat.le_trans hs hr4) dd (kk H ls locs hR hL hS)
end PVR
end
section
section PVR
variable {F : pb_F} {μ : pb_M} {d k n : Nat} {cells slots sz : Nat} {sk : pb_Sk} {rf : pb_Rf} {sg : pb_Sg} {pc q : Nat} {L : List (Option Value)} {st : List Value}
theorem pb_c1 {av : List Value} (h : av.all (fun v => v.category == 1) = true) : ∀ v ∈ av, v.category = 1 := fun v hv => by
  have := List.all_eq_true.mp h v hv
  simpa using this
def pb_b : Bool → Int32
  | true => nI 1
  | false => nI 0
theorem pb_b_nar (b : Bool) : narrow .boolean (.int (pb_b b)) = .int (pb_b b) := by cases b <;> rfl
theorem pb_b_0 {b : Bool} : pb_b b = 0 ↔ b = false := by cases b <;> decide
/-- it came back with v, and this memory -/
def pb_is (v : Option Value) (sz : Nat) (sk : pb_Sk) (rf : pb_Rf) (sg : pb_Sg) : pb_Post := fun r sz' sk' rf' sg' => r = .inl v ∧ sz' = sz ∧ sk' = sk ∧ rf' = rf ∧ sg' = sg
/-- it threw E; the memory is as before, but for cells that nobody knows -/
def pb_thr (E : String) (sz : Nat) (sk : pb_Sk) (rf : pb_Rf) (sg : pb_Sg) : pb_Post := fun r sz' sk' rf' sg' => r = .inr E ∧ sz ≤ sz' ∧ sk' = sk ∧ rf' = rf ∧ sg' = sg
theorem v_callV1 (h : pb_Fx F μ d k n) {μ' : pb_M} {d' N i b c : Nat} {av st0 : List Value} {v : Value} {sg' : pb_Sg} (hM : pb_Met (pb_l F) μ' d' 0 0 (.ref b :: av) sz sk rf sg (pb_is (some v) sz sk rf sg')) (hm : pb_MI μ' N) (hl : Cond.methodLink μ.1.cls i μ'.1 ∈ tbG) (hsl : Cond.selects μ'.1.cls μ'.1 μ'.1 ∈ tbG) (hb : sk b = (c + 6, 0)) (hc : c < 9) (hcc : pb_C c = μ'.1.cls) (hn : av.length = N) (hst : st0 = av.reverse ++ .ref b :: st) (hW : (st.map fun v => v.category).sum ≤ 8) (hd : d' + 1 ≤ d) (hk : cells ≤ k) (hs : slots ≤ n) (hLn : L.length = μ.2.2.1) (dd : decode μ.2.1 pc = .ok (.invokevirtual i, 3)) (hq : pc + 3 = q) (kk : pv F cells slots sz sk rf sg' q L (v :: st)) : pv F cells slots sz sk rf sg pc L st0 := by
  refine v_callV h hM hm hl hsl hb hc hcc hn hst hW hd hk hs hLn dd hq ?_ ?_
  · rintro v' sz' sk' rf' sg'' ⟨e1, rfl, rfl, rfl, rfl⟩
    cases e1
    exact kk
  · rintro E sz' sk' rf' sg'' ⟨e1, -⟩
    cases e1
theorem v_callV0 (h : pb_Fx F μ d k n) {μ' : pb_M} {d' N i b c : Nat} {av st0 : List Value} {sg' : pb_Sg} (hM : pb_Met (pb_l F) μ' d' 0 0 (.ref b :: av) sz sk rf sg (pb_is none sz sk rf sg')) (hm : pb_MI μ' N) (hl : Cond.methodLink μ.1.cls i μ'.1 ∈ tbG) (hsl : Cond.selects μ'.1.cls μ'.1 μ'.1 ∈ tbG) (hb : sk b = (c + 6, 0)) (hc : c < 9) (hcc : pb_C c = μ'.1.cls) (hn : av.length = N) (hst : st0 = av.reverse ++ .ref b :: st) (hW : (st.map fun v => v.category).sum ≤ 8) (hd : d' + 1 ≤ d) (hk : cells ≤ k) (hs : slots ≤ n) (hLn : L.length = μ.2.2.1) (dd : decode μ.2.1 pc = .ok (.invokevirtual i, 3)) (hq : pc + 3 = q) (kk : pv F cells slots sz sk rf sg' q L st) : pv F cells slots sz sk rf sg pc L st0 := by
  refine v_callV h hM hm hl hsl hb hc hcc hn hst hW hd hk hs hLn dd hq ?_ ?_
  · rintro v' sz' sk' rf' sg'' ⟨e1, rfl, rfl, rfl, rfl⟩
    cases e1
    exact kk
  · rintro E sz' sk' rf' sg'' ⟨e1, -⟩
    cases e1
theorem v_callVx (h : pb_Fx F μ d k n) {μ' : pb_M} {E : String} {d' k' n' N i b c : Nat} {av st0 : List Value} (hM : pb_Met (pb_l F) μ' d' k' n' (.ref b :: av) sz sk rf sg (pb_thr E sz sk rf sg)) (hm : pb_MI μ' N) (hl : Cond.methodLink μ.1.cls i μ'.1 ∈ tbG) (hsl : Cond.selects μ'.1.cls μ'.1 μ'.1 ∈ tbG) (hb : sk b = (c + 6, 0)) (hc : c < 9) (hcc : pb_C c = μ'.1.cls) (hn : av.length = N) (hst : st0 = av.reverse ++ .ref b :: st) (hW : (st.map fun v => v.category).sum ≤ 8) (hd : d' + 1 ≤ d) (hk : cells + k' ≤ k) (hs : slots + n' ≤ n) (hLn : L.length = μ.2.2.1) (dd : decode μ.2.1 pc = .ok (.invokevirtual i, 3)) (hq : pc + 3 = q) (kx : ∀ sz', sz ≤ sz' → px F (cells + k') (slots + n') sz' sk rf sg pc L E) : pv F cells slots sz sk rf sg pc L st0 := by
  refine v_callV h hM hm hl hsl hb hc hcc hn hst hW hd hk hs hLn dd hq ?_ ?_
  · rintro v' sz' sk' rf' sg'' ⟨e1, -⟩
    cases e1
  · rintro E' sz' sk' rf' sg'' ⟨e1, hz, rfl, rfl, rfl⟩
    cases e1
    exact kx sz' hz
theorem v_callS1 (h : pb_Fx F μ d k n) {μ' : pb_M} {d' N i : Nat} {av st0 : List Value} {v : Value} {sg' : pb_Sg} (hM : pb_Met (pb_l F) μ' d' 0 0 av sz sk rf sg (pb_is (some v) sz sk rf sg')) (hm : pb_MS μ' N) (h0 : μ'.2.2.2.2 = []) (hl : Cond.methodLink μ.1.cls i μ'.1 ∈ tbG) (hn : av.length = N) (hst : st0 = av.reverse ++ st) (hW : (st.map fun v => v.category).sum ≤ 8) (hd : d' + 1 ≤ d) (hk : cells ≤ k) (hs : slots ≤ n) (hLn : L.length = μ.2.2.1) (dd : decode μ.2.1 pc = .ok (.invokestatic i, 3)) (hq : pc + 3 = q) (kk : pv F cells slots sz sk rf sg' q L (v :: st)) : pv F cells slots sz sk rf sg pc L st0 := by
  refine v_callS h hM hm h0 hl hn hst hW hd hk hs hLn dd hq ?_ ?_
  · rintro v' sz' sk' rf' sg'' ⟨e1, rfl, rfl, rfl, rfl⟩
    cases e1
    exact kk
  · rintro E sz' sk' rf' sg'' ⟨e1, -⟩
    cases e1
theorem v_callS0 (h : pb_Fx F μ d k n) {μ' : pb_M} {d' N i : Nat} {av st0 : List Value} {sg' : pb_Sg} (hM : pb_Met (pb_l F) μ' d' 0 0 av sz sk rf sg (pb_is none sz sk rf sg')) (hm : pb_MS μ' N) (h0 : μ'.2.2.2.2 = []) (hl : Cond.methodLink μ.1.cls i μ'.1 ∈ tbG) (hn : av.length = N) (hst : st0 = av.reverse ++ st) (hW : (st.map fun v => v.category).sum ≤ 8) (hd : d' + 1 ≤ d) (hk : cells ≤ k) (hs : slots ≤ n) (hLn : L.length = μ.2.2.1) (dd : decode μ.2.1 pc = .ok (.invokestatic i, 3)) (hq : pc + 3 = q) (kk : pv F cells slots sz sk rf sg' q L st) : pv F cells slots sz sk rf sg pc L st0 := by
  refine v_callS h hM hm h0 hl hn hst hW hd hk hs hLn dd hq ?_ ?_
  · rintro v' sz' sk' rf' sg'' ⟨e1, rfl, rfl, rfl, rfl⟩
    cases e1
    exact kk
  · rintro E sz' sk' rf' sg'' ⟨e1, -⟩
    cases e1
theorem v_callSx (h : pb_Fx F μ d k n) {μ' : pb_M} {E : String} {d' k' n' N i : Nat} {av st0 : List Value} (hM : pb_Met (pb_l F) μ' d' k' n' av sz sk rf sg (pb_thr E sz sk rf sg)) (hm : pb_MS μ' N) (h0 : μ'.2.2.2.2 = []) (hl : Cond.methodLink μ.1.cls i μ'.1 ∈ tbG) (hn : av.length = N) (hst : st0 = av.reverse ++ st) (hW : (st.map fun v => v.category).sum ≤ 8) (hd : d' + 1 ≤ d) (hk : cells + k' ≤ k) (hs : slots + n' ≤ n) (hLn : L.length = μ.2.2.1) (dd : decode μ.2.1 pc = .ok (.invokestatic i, 3)) (hq : pc + 3 = q) (kx : ∀ sz', sz ≤ sz' → px F (cells + k') (slots + n') sz' sk rf sg pc L E) : pv F cells slots sz sk rf sg pc L st0 := by
  refine v_callS h hM hm h0 hl hn hst hW hd hk hs hLn dd hq ?_ ?_
  · rintro v' sz' sk' rf' sg'' ⟨e1, -⟩
    cases e1
  · rintro E' sz' sk' rf' sg'' ⟨e1, hz, rfl, rfl, rfl⟩
    cases e1
    exact kx sz' hz
theorem v_callSN1 (h : pb_Fx F μ d k n) {μ' : pb_M} {d' N i : Nat} {host : String} {av st0 : List Value} {v : Value} {sg' : pb_Sg} (hM : pb_Met (pb_l F) μ' d' 0 0 av sz sk rf sg (pb_is (some v) sz sk rf sg')) (hm : pb_MS μ' N) (h0 : μ'.2.2.2.2 = []) (hl : Cond.methodLinkNest μ.1.cls i μ'.1 host ∈ tbX) (hn : av.length = N) (hst : st0 = av.reverse ++ st) (hW : (st.map fun v => v.category).sum ≤ 8) (hd : d' + 1 ≤ d) (hk : cells ≤ k) (hs : slots ≤ n) (hLn : L.length = μ.2.2.1) (dd : decode μ.2.1 pc = .ok (.invokestatic i, 3)) (hq : pc + 3 = q) (kk : pv F cells slots sz sk rf sg' q L (v :: st)) : pv F cells slots sz sk rf sg pc L st0 := by
  refine v_callSN h hM hm h0 hl hn hst hW hd hk hs hLn dd hq ?_ ?_
  · rintro v' sz' sk' rf' sg'' ⟨e1, rfl, rfl, rfl, rfl⟩
    cases e1
    exact kk
  · rintro E sz' sk' rf' sg'' ⟨e1, -⟩
    cases e1
theorem v_alen (h : pb_Fx F μ d k n) {a t m : Nat} (hk : sk a = (t + 1, m)) (ht : t < 5) (dd : decode μ.2.1 pc = .ok (.arraylength, 1)) (hq : pc + 1 = q) (kk : pv F cells slots sz sk rf sg q L (.int (nI m) :: st)) : pv F cells slots sz sk rf sg pc L (.ref a :: st) := by
  subst hq
  intro H ls locs hR hL hS
  have h1 := (hR.2 a (by rw [hk]; exact Nat.succ_ne_zero _)).2
  rw [hk] at h1
  have hK := h.2.2.2.2.2.2.2.2.2.2.1
  match t, ht, h1 with
  | 0, _, h1 => exact W.alen (n := nI m) h.1 h.2.1 h1 ((hK.tys 0 rfl).1 m _) (by rw [arrV_size] <;> rfl) rfl rfl dd (kk H ls locs hR hL hS)
  | 1, _, h1 => exact W.alen (n := nI m) h.1 h.2.1 h1 ((hK.tys 1 rfl).1 m _) (by rw [arrV_size] <;> rfl) rfl rfl dd (kk H ls locs hR hL hS)
  | 2, _, h1 => exact W.alen (n := nI m) h.1 h.2.1 h1 ((hK.tys 2 rfl).1 m _) (by rw [arrV_size] <;> rfl) rfl rfl dd (kk H ls locs hR hL hS)
  | 3, _, h1 => exact W.alen (n := nI m) h.1 h.2.1 h1 ((hK.tys 3 rfl).1 m _) (by rw [arrV_size] <;> rfl) rfl rfl dd (kk H ls locs hR hL hS)
  | 4, _, h1 => exact W.alen (n := nI m) h.1 h.2.1 h1 ((hK.tys 4 rfl).1 m _) (by rw [arrV_size] <;> rfl) rfl rfl dd (kk H ls locs hR hL hS)
end PVR
theorem fl_X7_11 : pb_FL RX7 11 7 0 := ⟨by decide, by decide, tw257⟩
theorem fl_X7_18 : pb_FL RX7 18 7 1 := ⟨by decide, by decide, tw258⟩
theorem fl_X7_25 : pb_FL RX7 25 7 2 := ⟨by decide, by decide, tw259⟩
theorem fl_X7_32 : pb_FL RX7 32 7 3 := ⟨by decide, by decide, tw260⟩
theorem fl_X7_39 : pb_FL RX7 39 7 4 := ⟨by decide, by decide, tw261⟩
theorem fl_X7_46 : pb_FL RX7 46 7 5 := ⟨by decide, by decide, tw262⟩
theorem fl_X7_50 : pb_FL RX7 50 7 6 := ⟨by decide, by decide, tw263⟩
theorem fl_X7_65 : pb_FL RX7 65 0 2 := ⟨by decide, by decide, tw152⟩
theorem fl_X7_75 : pb_FL RX7 75 4 3 := ⟨by decide, by decide, tw101⟩
theorem fl_X7_79 : pb_FL RX7 79 0 4 := ⟨by decide, by decide, tw157⟩
theorem fl_X7_106 : pb_FL RX7 106 4 0 := ⟨by decide, by decide, tw89⟩
theorem fl_X7_128 : pb_FL RX7 128 2 6 := ⟨by decide, by decide, tw129⟩
theorem fl_X7_141 : pb_FL RX7 141 4 1 := ⟨by decide, by decide, tw96⟩
theorem fl_X7_151 : pb_FL RX7 151 0 3 := ⟨by decide, by decide, tw155⟩
theorem fl_X7_157 : pb_FL RX7 157 0 1 := ⟨by decide, by decide, tw149⟩
theorem fl_X7_161 : pb_FL RX7 161 0 0 := ⟨by decide, by decide, tw147⟩
theorem fl_X7_165 : pb_FL RX7 165 0 6 := ⟨by decide, by decide, tw162⟩
theorem fl_X7_170 : pb_FL RX7 170 0 5 := ⟨by decide, by decide, tw160⟩
theorem fl_X7_177 : pb_FL RX7 177 3 1 := ⟨by decide, by decide, tw209⟩
theorem fl_X7_193 : pb_FL RX7 193 3 0 := ⟨by decide, by decide, tw207⟩
theorem fl_X7_203 : pb_FL RX7 203 1 0 := ⟨by decide, by decide, tw187⟩
theorem fl_X7_206 : pb_FL RX7 206 1 2 := ⟨by decide, by decide, tw190⟩
theorem fl_X7_222 : pb_FL RX7 222 6 0 := ⟨by decide, by decide, tw226⟩
theorem fl_X7_228 : pb_FL RX7 228 6 2 := ⟨by decide, by decide, tw229⟩
theorem fl_X7_235 : pb_FL RX7 235 5 0 := ⟨by decide, by decide, tw245⟩
theorem fl_X7_238 : pb_FL RX7 238 5 2 := ⟨by decide, by decide, tw249⟩
theorem fl_X7_258 : pb_FL RX7 258 5 1 := ⟨by decide, by decide, tw247⟩
theorem fl_X7_278 : pb_FL RX7 278 3 2 := ⟨by decide, by decide, tw211⟩
theorem fl_X0_12 : pb_FL RX0 12 0 2 := ⟨by decide, by decide, tw150⟩
theorem fl_X0_18 : pb_FL RX0 18 0 3 := ⟨by decide, by decide, tw153⟩
theorem fl_X0_24 : pb_FL RX0 24 0 4 := ⟨by decide, by decide, tw156⟩
theorem fl_X0_28 : pb_FL RX0 28 0 5 := ⟨by decide, by decide, tw158⟩
theorem fl_X0_33 : pb_FL RX0 33 0 6 := ⟨by decide, by decide, tw161⟩
theorem fl_X0_37 : pb_FL RX0 37 0 0 := ⟨by decide, by decide, tw146⟩
theorem fl_X0_40 : pb_FL RX0 40 0 1 := ⟨by decide, by decide, tw148⟩
theorem fl_X1_9 : pb_FL RX1 9 1 0 := ⟨by decide, by decide, tw186⟩
theorem fl_X1_17 : pb_FL RX1 17 1 1 := ⟨by decide, by decide, tw188⟩
theorem fl_X1_20 : pb_FL RX1 20 1 2 := ⟨by decide, by decide, tw189⟩
theorem fl_X2_9 : pb_FL RX2 9 2 0 := ⟨by decide, by decide, tw122⟩
theorem fl_X2_15 : pb_FL RX2 15 2 1 := ⟨by decide, by decide, tw123⟩
theorem fl_X2_18 : pb_FL RX2 18 2 2 := ⟨by decide, by decide, tw124⟩
theorem fl_X2_21 : pb_FL RX2 21 2 3 := ⟨by decide, by decide, tw125⟩
theorem fl_X2_24 : pb_FL RX2 24 2 4 := ⟨by decide, by decide, tw126⟩
theorem fl_X2_27 : pb_FL RX2 27 2 5 := ⟨by decide, by decide, tw127⟩
theorem fl_X2_31 : pb_FL RX2 31 4 0 := ⟨by decide, by decide, tw88⟩
theorem fl_X2_34 : pb_FL RX2 34 4 1 := ⟨by decide, by decide, tw93⟩
theorem fl_X2_35 : pb_FL RX2 35 4 2 := ⟨by decide, by decide, tw98⟩
theorem fl_X2_36 : pb_FL RX2 36 4 3 := ⟨by decide, by decide, tw102⟩
theorem fl_X2_37 : pb_FL RX2 37 2 6 := ⟨by decide, by decide, tw128⟩
theorem fl_X3_12 : pb_FL RX3 12 3 0 := ⟨by decide, by decide, tw206⟩
theorem fl_X3_18 : pb_FL RX3 18 3 1 := ⟨by decide, by decide, tw208⟩
theorem fl_X3_22 : pb_FL RX3 22 3 2 := ⟨by decide, by decide, tw210⟩
theorem fl_X3_25 : pb_FL RX3 25 0 2 := ⟨by decide, by decide, tw151⟩
theorem fl_X3_28 : pb_FL RX3 28 0 3 := ⟨by decide, by decide, tw154⟩
theorem fl_X3_35 : pb_FL RX3 35 0 5 := ⟨by decide, by decide, tw159⟩
theorem fl_X3_55 : pb_FL RX3 55 4 0 := ⟨by decide, by decide, tw90⟩
theorem fl_X3_62 : pb_FL RX3 62 4 1 := ⟨by decide, by decide, tw94⟩
theorem fl_X3_65 : pb_FL RX3 65 4 2 := ⟨by decide, by decide, tw99⟩
theorem fl_X3_68 : pb_FL RX3 68 4 3 := ⟨by decide, by decide, tw104⟩
theorem fl_X4_9 : pb_FL RX4 9 4 0 := ⟨by decide, by decide, tw86⟩
theorem fl_X4_15 : pb_FL RX4 15 4 1 := ⟨by decide, by decide, tw92⟩
theorem fl_X4_18 : pb_FL RX4 18 4 2 := ⟨by decide, by decide, tw97⟩
theorem fl_X4_21 : pb_FL RX4 21 4 3 := ⟨by decide, by decide, tw100⟩
theorem fl_X5_9 : pb_FL RX5 9 5 0 := ⟨by decide, by decide, tw244⟩
theorem fl_X5_17 : pb_FL RX5 17 5 1 := ⟨by decide, by decide, tw246⟩
theorem fl_X5_20 : pb_FL RX5 20 5 2 := ⟨by decide, by decide, tw248⟩
theorem fl_X5_62 : pb_FL RX5 62 4 0 := ⟨by decide, by decide, tw91⟩
theorem fl_X5_77 : pb_FL RX5 77 4 3 := ⟨by decide, by decide, tw105⟩
theorem fl_X5_80 : pb_FL RX5 80 4 1 := ⟨by decide, by decide, tw95⟩
theorem fl_X6_9 : pb_FL RX6 9 6 0 := ⟨by decide, by decide, tw225⟩
theorem fl_X6_15 : pb_FL RX6 15 6 1 := ⟨by decide, by decide, tw227⟩
theorem fl_X6_18 : pb_FL RX6 18 4 0 := ⟨by decide, by decide, tw87⟩
theorem fl_X6_27 : pb_FL RX6 27 6 2 := ⟨by decide, by decide, tw228⟩
theorem fl_X6_37 : pb_FL RX6 37 4 3 := ⟨by decide, by decide, tw103⟩
theorem fl_X8_7 : pb_FL RX8 7 8 1 := ⟨by decide, by decide, tw826⟩
theorem fl_X8_13 : pb_FL RX8 13 8 2 := ⟨by decide, by decide, tw827⟩
theorem fl_X8_16 : pb_FL RX8 16 8 3 := ⟨by decide, by decide, tw828⟩
theorem fl_X8_19 : pb_FL RX8 19 8 4 := ⟨by decide, by decide, tw829⟩
theorem fl_X8_22 : pb_FL RX8 22 8 5 := ⟨by decide, by decide, tw830⟩
theorem fl_X8_25 : pb_FL RX8 25 8 6 := ⟨by decide, by decide, tw831⟩
theorem fl_X8_28 : pb_FL RX8 28 8 7 := ⟨by decide, by decide, tw832⟩
theorem fl_X8_31 : pb_FL RX8 31 8 8 := ⟨by decide, by decide, tw833⟩
theorem fl_X8_35 : pb_FL RX8 35 8 9 := ⟨by decide, by decide, tw834⟩
theorem fl_X8_38 : pb_FL RX8 38 8 10 := ⟨by decide, by decide, tw835⟩
theorem fl_X8_41 : pb_FL RX8 41 8 11 := ⟨by decide, by decide, tw836⟩
theorem fl_X8_44 : pb_FL RX8 44 8 12 := ⟨by decide, by decide, tw837⟩
theorem fl_X8_47 : pb_FL RX8 47 8 13 := ⟨by decide, by decide, tw838⟩
theorem fl_X8_50 : pb_FL RX8 50 8 14 := ⟨by decide, by decide, tw839⟩
theorem fl_X8_53 : pb_FL RX8 53 8 15 := ⟨by decide, by decide, tw840⟩
theorem fl_X8_56 : pb_FL RX8 56 8 16 := ⟨by decide, by decide, tw841⟩
theorem fl_X8_59 : pb_FL RX8 59 8 17 := ⟨by decide, by decide, tw842⟩
theorem fl_X8_62 : pb_FL RX8 62 8 18 := ⟨by decide, by decide, tw843⟩
theorem fl_X8_65 : pb_FL RX8 65 8 19 := ⟨by decide, by decide, tw844⟩
theorem fl_X8_68 : pb_FL RX8 68 8 21 := ⟨by decide, by decide, tw846⟩
theorem fl_X8_71 : pb_FL RX8 71 8 22 := ⟨by decide, by decide, tw847⟩
theorem fl_X8_74 : pb_FL RX8 74 8 23 := ⟨by decide, by decide, tw848⟩
theorem fl_X8_77 : pb_FL RX8 77 8 24 := ⟨by decide, by decide, tw849⟩
theorem fl_X8_80 : pb_FL RX8 80 8 25 := ⟨by decide, by decide, tw850⟩
theorem fl_X8_84 : pb_FL RX8 84 8 26 := ⟨by decide, by decide, tw851⟩
theorem fl_X8_88 : pb_FL RX8 88 8 0 := ⟨by decide, by decide, tw825⟩
theorem fl_X8_165 : pb_FL RX8 165 8 27 := ⟨by decide, by decide, tw852⟩
theorem fl_X8_203 : pb_FL RX8 203 8 20 := ⟨by decide, by decide, tw845⟩
theorem th_X7_93 : pb_TH RX7 "java/lang/IllegalStateException" 93 97 := ⟨by decide +kernel, tw406, tw61, by decide +kernel, by decide +kernel, by decide +kernel⟩
theorem th_X7_112 : pb_TH RX7 "java/lang/IllegalArgumentException" 112 116 := ⟨by decide +kernel, tw370, tw60, by decide +kernel, by decide +kernel, by decide +kernel⟩
theorem th_X7_267 : pb_TH RX7 "java/lang/IndexOutOfBoundsException" 267 271 := ⟨by decide +kernel, tw296, tw59, by decide +kernel, by decide +kernel, by decide +kernel⟩
def mX0_init : pb_M := (yX0_init, cX0_init, 4, none, [])
theorem kX0_init : pb_MI mX0_init 2 := ⟨rfl, tw77, tw48, tw78, by decide +kernel, by decide +kernel, by decide +kernel, by decide +kernel⟩
def mX0_startFrom : pb_M := (yX0_startFrom, cX0_startFrom, 2, none, [])
theorem kX0_startFrom : pb_MI mX0_startFrom 1 := ⟨rfl, tw687, tw48, tw689, by decide +kernel, by decide +kernel, by decide +kernel, by decide +kernel⟩
def mX1_init : pb_M := (yX1_init, cX1_init, 3, none, [])
theorem kX1_init : pb_MI mX1_init 0 := ⟨rfl, tw181, tw51, tw182, by decide +kernel, by decide +kernel, by decide +kernel, by decide +kernel⟩
def mX1_lendOut : pb_M := (yX1_lendOut, cX1_lendOut, 6, none, [])
theorem kX1_lendOut : pb_MI mX1_lendOut 4 := ⟨rfl, tw717, tw51, tw719, by decide +kernel, by decide +kernel, by decide +kernel, by decide +kernel⟩
def mX1_heldBy : pb_M := (yX1_heldBy, cX1_heldBy, 4, (some .int), [])
theorem kX1_heldBy : pb_MI mX1_heldBy 2 := ⟨rfl, tw629, tw51, tw631, by decide +kernel, by decide +kernel, by decide +kernel, by decide +kernel⟩
def mX2_init : pb_M := (yX2_init, cX2_init, 1, none, [])
theorem kX2_init : pb_MI mX2_init 0 := ⟨rfl, tw119, tw50, tw120, by decide +kernel, by decide +kernel, by decide +kernel, by decide +kernel⟩
def mX2_keep : pb_M := (yX2_keep, cX2_keep, 3, none, [])
theorem kX2_keep : pb_MI mX2_keep 2 := ⟨rfl, tw391, tw50, tw393, by decide +kernel, by decide +kernel, by decide +kernel, by decide +kernel⟩
def mX2_restore : pb_M := (yX2_restore, cX2_restore, 2, none, [])
theorem kX2_restore : pb_MI mX2_restore 1 := ⟨rfl, tw459, tw50, tw461, by decide +kernel, by decide +kernel, by decide +kernel, by decide +kernel⟩
def mX2_forget : pb_M := (yX2_forget, cX2_forget, 1, none, [])
theorem kX2_forget : pb_MI mX2_forget 0 := ⟨rfl, tw524, tw50, tw526, by decide +kernel, by decide +kernel, by decide +kernel, by decide +kernel⟩
def mX3_init : pb_M := (yX3_init, cX3_init, 1, none, [])
theorem kX3_init : pb_MI mX3_init 0 := ⟨rfl, tw201, tw52, tw202, by decide +kernel, by decide +kernel, by decide +kernel, by decide +kernel⟩
def mX3_join : pb_M := (yX3_join, cX3_join, 4, none, [])
theorem kX3_join : pb_MI mX3_join 2 := ⟨rfl, tw558, tw52, tw560, by decide +kernel, by decide +kernel, by decide +kernel, by decide +kernel⟩
def mX3_clash : pb_M := (yX3_clash, cX3_clash, 4, (some .boolean), [])
theorem kX3_clash : pb_MS mX3_clash 4 := ⟨tw562, tw52, tw563, by decide +kernel, by decide +kernel, by decide +kernel, by decide +kernel⟩
def mX3_apart : pb_M := (yX3_apart, cX3_apart, 3, (some .boolean), [])
theorem kX3_apart : pb_MS mX3_apart 3 := ⟨tw570, tw52, tw571, by decide +kernel, by decide +kernel, by decide +kernel, by decide +kernel⟩
def mX3_joinTask : pb_M := (yX3_joinTask, cX3_joinTask, 6, none, [])
theorem kX3_joinTask : pb_MI mX3_joinTask 4 := ⟨rfl, tw575, tw52, tw576, by decide +kernel, by decide +kernel, by decide +kernel, by decide +kernel⟩
def mX3_mixed : pb_M := (yX3_mixed, cX3_mixed, 3, (some .int), [])
theorem kX3_mixed : pb_MS mX3_mixed 3 := ⟨tw578, tw52, tw579, by decide +kernel, by decide +kernel, by decide +kernel, by decide +kernel⟩
def mX4_init : pb_M := (yX4_init, cX4_init, 2, none, [])
theorem kX4_init : pb_MI mX4_init 0 := ⟨rfl, tw83, tw49, tw84, by decide +kernel, by decide +kernel, by decide +kernel, by decide +kernel⟩
def mX4_has : pb_M := (yX4_has, cX4_has, 2, (some .boolean), [])
theorem kX4_has : pb_MI mX4_has 1 := ⟨rfl, tw387, tw49, tw389, by decide +kernel, by decide +kernel, by decide +kernel, by decide +kernel⟩
def mX4_put : pb_M := (yX4_put, cX4_put, 6, none, [])
theorem kX4_put : pb_MI mX4_put 5 := ⟨rfl, tw395, tw49, tw397, by decide +kernel, by decide +kernel, by decide +kernel, by decide +kernel⟩
def mX4_clear : pb_M := (yX4_clear, cX4_clear, 2, none, [])
theorem kX4_clear : pb_MI mX4_clear 1 := ⟨rfl, tw431, tw49, tw433, by decide +kernel, by decide +kernel, by decide +kernel, by decide +kernel⟩
def mX4_take : pb_M := (yX4_take, cX4_take, 3, none, [])
theorem kX4_take : pb_MI mX4_take 2 := ⟨rfl, tw520, tw49, tw522, by decide +kernel, by decide +kernel, by decide +kernel, by decide +kernel⟩
def mX4_copyFrom : pb_M := (yX4_copyFrom, cX4_copyFrom, 3, none, [])
theorem kX4_copyFrom : pb_MI mX4_copyFrom 1 := ⟨rfl, tw516, tw49, tw518, by decide +kernel, by decide +kernel, by decide +kernel, by decide +kernel⟩
def mX4_same : pb_M := (yX4_same, cX4_same, 3, (some .boolean), [])
theorem kX4_same : pb_MI mX4_same 2 := ⟨rfl, tw565, tw49, tw567, by decide +kernel, by decide +kernel, by decide +kernel, by decide +kernel⟩
def mX4_countOthers : pb_M := (yX4_countOthers, cX4_countOthers, 4, (some .int), [])
theorem kX4_countOthers : pb_MI mX4_countOthers 1 := ⟨rfl, tw682, tw49, tw684, by decide +kernel, by decide +kernel, by decide +kernel, by decide +kernel⟩
def mX4_present : pb_M := (yX4_present, cX4_present, 3, (some .int), [])
theorem kX4_present : pb_MI mX4_present 0 := ⟨rfl, tw471, tw49, tw473, by decide +kernel, by decide +kernel, by decide +kernel, by decide +kernel⟩
def mX4_totalCost : pb_M := (yX4_totalCost, cX4_totalCost, 3, (some .int), [])
theorem kX4_totalCost : pb_MI mX4_totalCost 0 := ⟨rfl, tw504, tw49, tw506, by decide +kernel, by decide +kernel, by decide +kernel, by decide +kernel⟩
def mX4_needers : pb_M := (yX4_needers, cX4_needers, 4, (some .int), [])
theorem kX4_needers : pb_MI mX4_needers 1 := ⟨rfl, tw423, tw49, tw425, by decide +kernel, by decide +kernel, by decide +kernel, by decide +kernel⟩
def mX4_allNeeds : pb_M := (yX4_allNeeds, cX4_allNeeds, 6, (some .int), [])
theorem kX4_allNeeds : pb_MI mX4_allNeeds 1 := ⟨rfl, tw445, tw49, tw447, by decide +kernel, by decide +kernel, by decide +kernel, by decide +kernel⟩
def mX4_lacking : pb_M := (yX4_lacking, cX4_lacking, 4, (some .int), [])
theorem kX4_lacking : pb_MI mX4_lacking 0 := ⟨rfl, tw596, tw49, tw598, by decide +kernel, by decide +kernel, by decide +kernel, by decide +kernel⟩
def mX4_ringed : pb_M := (yX4_ringed, cX4_ringed, 3, (some .int), [])
theorem kX4_ringed : pb_MI mX4_ringed 0 := ⟨rfl, tw601, tw49, tw603, by decide +kernel, by decide +kernel, by decide +kernel, by decide +kernel⟩
def mX5_init : pb_M := (yX5_init, cX5_init, 1, none, [])
theorem kX5_init : pb_MI mX5_init 0 := ⟨rfl, tw240, tw54, tw241, by decide +kernel, by decide +kernel, by decide +kernel, by decide +kernel⟩
def mX5_start : pb_M := (yX5_start, cX5_start, 5, none, [])
theorem kX5_start : pb_MI mX5_start 2 := ⟨rfl, tw622, tw54, tw624, by decide +kernel, by decide +kernel, by decide +kernel, by decide +kernel⟩
def mX5_placeByTails : pb_M := (yX5_placeByTails, cX5_placeByTails, 7, none, [])
theorem kX5_placeByTails : pb_MI mX5_placeByTails 2 := ⟨rfl, tw633, tw54, tw635, by decide +kernel, by decide +kernel, by decide +kernel, by decide +kernel⟩
def mX5_nextByTails : pb_M := (yX5_nextByTails, cX5_nextByTails, 7, (some .int), [])
theorem kX5_nextByTails : pb_MI mX5_nextByTails 3 := ⟨rfl, tw639, tw54, tw640, by decide +kernel, by decide +kernel, by decide +kernel, by decide +kernel⟩
def mX5_endByAll : pb_M := (yX5_endByAll, cX5_endByAll, 3, (some .int), [])
theorem kX5_endByAll : pb_MI mX5_endByAll 1 := ⟨rfl, tw800, tw54, tw802, by decide +kernel, by decide +kernel, by decide +kernel, by decide +kernel⟩
def mX5_endByOrders : pb_M := (yX5_endByOrders, cX5_endByOrders, 10, (some .int), [])
theorem kX5_endByOrders : pb_MS mX5_endByOrders 6 := ⟨tw804, tw54, tw805, by decide +kernel, by decide +kernel, by decide +kernel, by decide +kernel⟩
def mX5_ready : pb_M := (yX5_ready, cX5_ready, 4, (some .boolean), [])
theorem kX5_ready : pb_MI mX5_ready 3 := ⟨rfl, tw643, tw54, tw644, by decide +kernel, by decide +kernel, by decide +kernel, by decide +kernel⟩
def mX5_earliest : pb_M := (yX5_earliest, cX5_earliest, 8, (some .int), [])
theorem kX5_earliest : pb_MI mX5_earliest 2 := ⟨rfl, tw648, tw54, tw649, by decide +kernel, by decide +kernel, by decide +kernel, by decide +kernel⟩
def mX5_dayBehindNeeds : pb_M := (yX5_dayBehindNeeds, cX5_dayBehindNeeds, 5, (some .int), [])
theorem kX5_dayBehindNeeds : pb_MI mX5_dayBehindNeeds 2 := ⟨rfl, tw652, tw54, tw653, by decide +kernel, by decide +kernel, by decide +kernel, by decide +kernel⟩
def mX5_place : pb_M := (yX5_place, cX5_place, 4, none, [])
theorem kX5_place : pb_MI mX5_place 3 := ⟨rfl, tw657, tw54, tw658, by decide +kernel, by decide +kernel, by decide +kernel, by decide +kernel⟩
def mX5_takeBack : pb_M := (yX5_takeBack, cX5_takeBack, 4, none, [])
theorem kX5_takeBack : pb_MI mX5_takeBack 3 := ⟨rfl, tw808, tw54, tw809, by decide +kernel, by decide +kernel, by decide +kernel, by decide +kernel⟩
def mX5_markWork : pb_M := (yX5_markWork, cX5_markWork, 8, none, [])
theorem kX5_markWork : pb_MI mX5_markWork 4 := ⟨rfl, tw661, tw54, tw662, by decide +kernel, by decide +kernel, by decide +kernel, by decide +kernel⟩
def mX5_endOf : pb_M := (yX5_endOf, cX5_endOf, 4, (some .int), [])
theorem kX5_endOf : pb_MI mX5_endOf 1 := ⟨rfl, tw782, tw54, tw784, by decide +kernel, by decide +kernel, by decide +kernel, by decide +kernel⟩
def mX6_init : pb_M := (yX6_init, cX6_init, 1, none, [])
theorem kX6_init : pb_MI mX6_init 0 := ⟨rfl, tw222, tw53, tw223, by decide +kernel, by decide +kernel, by decide +kernel, by decide +kernel⟩
def mX6_measure : pb_M := (yX6_measure, cX6_measure, 5, none, [])
theorem kX6_measure : pb_MI mX6_measure 1 := ⟨rfl, tw610, tw53, tw612, by decide +kernel, by decide +kernel, by decide +kernel, by decide +kernel⟩
def mX6_stretch : pb_M := (yX6_stretch, cX6_stretch, 7, (some .boolean), [])
theorem kX6_stretch : pb_MI mX6_stretch 2 := ⟨rfl, tw615, tw53, tw616, by decide +kernel, by decide +kernel, by decide +kernel, by decide +kernel⟩
def mX6_slackOf : pb_M := (yX6_slackOf, cX6_slackOf, 2, (some .int), [])
theorem kX6_slackOf : pb_MI mX6_slackOf 1 := ⟨rfl, tw743, tw53, tw745, by decide +kernel, by decide +kernel, by decide +kernel, by decide +kernel⟩
def mX7_init : pb_M := (yX7_init, cX7_init, 1, none, [])
theorem kX7_init : pb_MI mX7_init 0 := ⟨rfl, tw68, tw47, tw69, by decide +kernel, by decide +kernel, by decide +kernel, by decide +kernel⟩
def mX7_setTask : pb_M := (yX7_setTask, cX7_setTask, 9, (some .boolean), [])
theorem kX7_setTask : pb_MI mX7_setTask 5 := ⟨rfl, tw289, tw47, tw291, by decide +kernel, by decide +kernel, by decide +kernel, by decide +kernel⟩
def mX7_removeTask : pb_M := (yX7_removeTask, cX7_removeTask, 5, (some .int), [])
theorem kX7_removeTask : pb_MI mX7_removeTask 2 := ⟨rfl, tw403, tw47, tw405, by decide +kernel, by decide +kernel, by decide +kernel, by decide +kernel⟩
def mX7_setNeed : pb_M := (yX7_setNeed, cX7_setNeed, 7, (some .boolean), [])
theorem kX7_setNeed : pb_MI mX7_setNeed 4 := ⟨rfl, tw439, tw47, tw441, by decide +kernel, by decide +kernel, by decide +kernel, by decide +kernel⟩
def mX7_undo : pb_M := (yX7_undo, cX7_undo, 3, (some .int), [])
theorem kX7_undo : pb_MI mX7_undo 1 := ⟨rfl, tw454, tw47, tw456, by decide +kernel, by decide +kernel, by decide +kernel, by decide +kernel⟩
def mX7_tasks : pb_M := (yX7_tasks, cX7_tasks, 2, (some .int), [])
theorem kX7_tasks : pb_MI mX7_tasks 1 := ⟨rfl, tw467, tw47, tw469, by decide +kernel, by decide +kernel, by decide +kernel, by decide +kernel⟩
def mX7_length : pb_M := (yX7_length, cX7_length, 4, (some .int), [])
theorem kX7_length : pb_MI mX7_length 2 := ⟨rfl, tw479, tw47, tw481, by decide +kernel, by decide +kernel, by decide +kernel, by decide +kernel⟩
def mX7_crew : pb_M := (yX7_crew, cX7_crew, 4, (some .int), [])
theorem kX7_crew : pb_MI mX7_crew 2 := ⟨rfl, tw486, tw47, tw488, by decide +kernel, by decide +kernel, by decide +kernel, by decide +kernel⟩
def mX7_needs : pb_M := (yX7_needs, cX7_needs, 4, (some .int), [])
theorem kX7_needs : pb_MI mX7_needs 2 := ⟨rfl, tw493, tw47, tw495, by decide +kernel, by decide +kernel, by decide +kernel, by decide +kernel⟩
def mX7_cost : pb_M := (yX7_cost, cX7_cost, 2, (some .int), [])
theorem kX7_cost : pb_MI mX7_cost 1 := ⟨rfl, tw500, tw47, tw502, by decide +kernel, by decide +kernel, by decide +kernel, by decide +kernel⟩
def mX7_begin : pb_M := (yX7_begin, cX7_begin, 5, (some .int), [])
theorem kX7_begin : pb_MI mX7_begin 1 := ⟨rfl, tw511, tw47, tw513, by decide +kernel, by decide +kernel, by decide +kernel, by decide +kernel⟩
def mX7_branches : pb_M := (yX7_branches, cX7_branches, 1, (some .int), [])
theorem kX7_branches : pb_MI mX7_branches 0 := ⟨rfl, tw280, tw47, tw282, by decide +kernel, by decide +kernel, by decide +kernel, by decide +kernel⟩
def mX7_parent : pb_M := (yX7_parent, cX7_parent, 3, (some .int), [])
theorem kX7_parent : pb_MI mX7_parent 1 := ⟨rfl, tw531, tw47, tw533, by decide +kernel, by decide +kernel, by decide +kernel, by decide +kernel⟩
def mX7_setBudget : pb_M := (yX7_setBudget, cX7_setBudget, 5, (some .int), [])
theorem kX7_setBudget : pb_MI mX7_setBudget 2 := ⟨rfl, tw538, tw47, tw540, by decide +kernel, by decide +kernel, by decide +kernel, by decide +kernel⟩
def mX7_resolve : pb_M := (yX7_resolve, cX7_resolve, 6, (some .int), [])
theorem kX7_resolve : pb_MI mX7_resolve 3 := ⟨rfl, tw546, tw47, tw548, by decide +kernel, by decide +kernel, by decide +kernel, by decide +kernel⟩
def mX7_clashes : pb_M := (yX7_clashes, cX7_clashes, 4, (some .int), [])
theorem kX7_clashes : pb_MI mX7_clashes 1 := ⟨rfl, tw554, tw47, tw556, by decide +kernel, by decide +kernel, by decide +kernel, by decide +kernel⟩
def mX7_reason : pb_M := (yX7_reason, cX7_reason, 5, (some .int), [])
theorem kX7_reason : pb_MI mX7_reason 2 := ⟨rfl, tw585, tw47, tw587, by decide +kernel, by decide +kernel, by decide +kernel, by decide +kernel⟩
def mX7_reasonTask : pb_M := (yX7_reasonTask, cX7_reasonTask, 5, (some .int), [])
theorem kX7_reasonTask : pb_MI mX7_reasonTask 2 := ⟨rfl, tw667, tw47, tw669, by decide +kernel, by decide +kernel, by decide +kernel, by decide +kernel⟩
def mX7_merge : pb_M := (yX7_merge, cX7_merge, 5, (some .int), [])
theorem kX7_merge : pb_MI mX7_merge 1 := ⟨rfl, tw677, tw47, tw679, by decide +kernel, by decide +kernel, by decide +kernel, by decide +kernel⟩
def mX7_update : pb_M := (yX7_update, cX7_update, 5, (some .int), [])
theorem kX7_update : pb_MI mX7_update 1 := ⟨rfl, tw697, tw47, tw699, by decide +kernel, by decide +kernel, by decide +kernel, by decide +kernel⟩
def mX7_give : pb_M := (yX7_give, cX7_give, 4, (some .int), [])
theorem kX7_give : pb_MI mX7_give 2 := ⟨rfl, tw705, tw47, tw707, by decide +kernel, by decide +kernel, by decide +kernel, by decide +kernel⟩
def mX7_lend : pb_M := (yX7_lend, cX7_lend, 5, (some .int), [])
theorem kX7_lend : pb_MI mX7_lend 4 := ⟨rfl, tw712, tw47, tw714, by decide +kernel, by decide +kernel, by decide +kernel, by decide +kernel⟩
def mX7_holder : pb_M := (yX7_holder, cX7_holder, 3, (some .int), [])
theorem kX7_holder : pb_MI mX7_holder 2 := ⟨rfl, tw724, tw47, tw726, by decide +kernel, by decide +kernel, by decide +kernel, by decide +kernel⟩
def mX7_tail : pb_M := (yX7_tail, cX7_tail, 4, (some .int), [])
theorem kX7_tail : pb_MI mX7_tail 2 := ⟨rfl, tw732, tw47, tw734, by decide +kernel, by decide +kernel, by decide +kernel, by decide +kernel⟩
def mX7_slack : pb_M := (yX7_slack, cX7_slack, 4, (some .int), [])
theorem kX7_slack : pb_MI mX7_slack 2 := ⟨rfl, tw739, tw47, tw741, by decide +kernel, by decide +kernel, by decide +kernel, by decide +kernel⟩
def mX7_critical : pb_M := (yX7_critical, cX7_critical, 5, (some .int), [])
theorem kX7_critical : pb_MI mX7_critical 1 := ⟨rfl, tw750, tw47, tw752, by decide +kernel, by decide +kernel, by decide +kernel, by decide +kernel⟩
def mX7_way : pb_M := (yX7_way, cX7_way, 3, (some .int), [])
theorem kX7_way : pb_MI mX7_way 1 := ⟨rfl, tw757, tw47, tw759, by decide +kernel, by decide +kernel, by decide +kernel, by decide +kernel⟩
def mX7_firstDay : pb_M := (yX7_firstDay, cX7_firstDay, 4, (some .int), [])
theorem kX7_firstDay : pb_MI mX7_firstDay 2 := ⟨rfl, tw764, tw47, tw766, by decide +kernel, by decide +kernel, by decide +kernel, by decide +kernel⟩
def mX7_leftOut : pb_M := (yX7_leftOut, cX7_leftOut, 3, (some .int), [])
theorem kX7_leftOut : pb_MI mX7_leftOut 1 := ⟨rfl, tw771, tw47, tw773, by decide +kernel, by decide +kernel, by decide +kernel, by decide +kernel⟩
def mX7_lastDay : pb_M := (yX7_lastDay, cX7_lastDay, 3, (some .int), [])
theorem kX7_lastDay : pb_MI mX7_lastDay 1 := ⟨rfl, tw778, tw47, tw780, by decide +kernel, by decide +kernel, by decide +kernel, by decide +kernel⟩
def mX7_lastDayByAll : pb_M := (yX7_lastDayByAll, cX7_lastDayByAll, 3, (some .int), [])
theorem kX7_lastDayByAll : pb_MI mX7_lastDayByAll 1 := ⟨rfl, tw789, tw47, tw791, by decide +kernel, by decide +kernel, by decide +kernel, by decide +kernel⟩
def mX7_taskOn : pb_M := (yX7_taskOn, cX7_taskOn, 5, (some .int), [])
theorem kX7_taskOn : pb_MI mX7_taskOn 3 := ⟨rfl, tw814, tw47, tw816, by decide +kernel, by decide +kernel, by decide +kernel, by decide +kernel⟩
def mX7_branchAt : pb_M := (yX7_branchAt, cX7_branchAt, 3, (some (.object "PlanBranches$Branch")), [])
theorem kX7_branchAt : pb_MI mX7_branchAt 1 := ⟨rfl, tw294, tw47, tw295, by decide +kernel, by decide +kernel, by decide +kernel, by decide +kernel⟩
def mX7_parentOf : pb_M := (yX7_parentOf, cX7_parentOf, 2, (some (.object "PlanBranches$Branch")), [])
theorem kX7_parentOf : pb_MS mX7_parentOf 1 := ⟨tw589, tw47, tw590, by decide +kernel, by decide +kernel, by decide +kernel, by decide +kernel⟩
def mX7_checkTask : pb_M := (yX7_checkTask, cX7_checkTask, 1, none, [])
theorem kX7_checkTask : pb_MS mX7_checkTask 1 := ⟨tw365, tw47, tw366, by decide +kernel, by decide +kernel, by decide +kernel, by decide +kernel⟩
def mX7_checkRange : pb_M := (yX7_checkRange, cX7_checkRange, 3, none, [])
theorem kX7_checkRange : pb_MS mX7_checkRange 3 := ⟨tw368, tw47, tw369, by decide +kernel, by decide +kernel, by decide +kernel, by decide +kernel⟩
def mX7_contains : pb_M := (yX7_contains, cX7_contains, 2, (some .boolean), [])
theorem kX7_contains : pb_MS mX7_contains 2 := ⟨tw427, tw47, tw428, by decide +kernel, by decide +kernel, by decide +kernel, by decide +kernel⟩
def mX7_lowest : pb_M := (yX7_lowest, cX7_lowest, 2, (some .int), [])
theorem kX7_lowest : pb_MS mX7_lowest 1 := ⟨tw671, tw47, tw672, by decide +kernel, by decide +kernel, by decide +kernel, by decide +kernel⟩
def mX7_placeByRule : pb_M := (yX7_placeByRule, cX7_placeByRule, 3, none, [])
theorem kX7_placeByRule : pb_MI mX7_placeByRule 2 := ⟨rfl, tw607, tw47, tw608, by decide +kernel, by decide +kernel, by decide +kernel, by decide +kernel⟩
def mX7_judge : pb_M := (yX7_judge, cX7_judge, 5, (some .int), [])
theorem kX7_judge : pb_MI mX7_judge 3 := ⟨rfl, tw593, tw47, tw594, by decide +kernel, by decide +kernel, by decide +kernel, by decide +kernel⟩
def mX8_init : pb_M := (yX8_init, cX8_init, 2, none, [])
theorem kX8_init : pb_MI mX8_init 0 := ⟨rfl, tw821, tw55, tw822, by decide +kernel, by decide +kernel, by decide +kernel, by decide +kernel⟩
def mX8_thrown : pb_M := (yX8_thrown, cX8_thrown, 1, (some .int), [])
theorem kX8_thrown : pb_MI mX8_thrown 0 := ⟨rfl, tw912, tw55, tw914, by decide +kernel, by decide +kernel, by decide +kernel, by decide +kernel⟩
def mX8_isFine : pb_M := (yX8_isFine, cX8_isFine, 2, (some .boolean), [])
theorem kX8_isFine : pb_MI mX8_isFine 1 := ⟨rfl, tw931, tw55, tw932, by decide +kernel, by decide +kernel, by decide +kernel, by decide +kernel⟩
def mX8_isIn : pb_M := (yX8_isIn, cX8_isIn, 3, (some .boolean), [])
theorem kX8_isIn : pb_MS mX8_isIn 3 := ⟨tw923, tw55, tw924, by decide +kernel, by decide +kernel, by decide +kernel, by decide +kernel⟩
def mX8_isBranch : pb_M := (yX8_isBranch, cX8_isBranch, 2, (some .boolean), [])
theorem kX8_isBranch : pb_MI mX8_isBranch 1 := ⟨rfl, tw927, tw55, tw928, by decide +kernel, by decide +kernel, by decide +kernel, by decide +kernel⟩
def mX8_isTask : pb_M := (yX8_isTask, cX8_isTask, 1, (some .boolean), [])
theorem kX8_isTask : pb_MS mX8_isTask 1 := ⟨tw920, tw55, tw921, by decide +kernel, by decide +kernel, by decide +kernel, by decide +kernel⟩
def mX8_at : pb_M := (yX8_at, cX8_at, 2, (some .int), [])
theorem kX8_at : pb_MS mX8_at 2 := ⟨tw938, tw55, tw939, by decide +kernel, by decide +kernel, by decide +kernel, by decide +kernel⟩
def mX8_isThere : pb_M := (yX8_isThere, cX8_isThere, 3, (some .boolean), [])
theorem kX8_isThere : pb_MI mX8_isThere 2 := ⟨rfl, tw942, tw55, tw943, by decide +kernel, by decide +kernel, by decide +kernel, by decide +kernel⟩
def mX8_doesNeed : pb_M := (yX8_doesNeed, cX8_doesNeed, 4, (some .boolean), [])
theorem kX8_doesNeed : pb_MI mX8_doesNeed 3 := ⟨rfl, tw958, tw55, tw959, by decide +kernel, by decide +kernel, by decide +kernel, by decide +kernel⟩
def mX8_keeps : pb_M := (yX8_keeps, cX8_keeps, 4, none, [])
theorem kX8_keeps : pb_MI mX8_keeps 2 := ⟨rfl, tw935, tw55, tw936, by decide +kernel, by decide +kernel, by decide +kernel, by decide +kernel⟩
def mX8_lays : pb_M := (yX8_lays, cX8_lays, 7, none, [])
theorem kX8_lays : pb_MI mX8_lays 6 := ⟨rfl, tw946, tw55, tw947, by decide +kernel, by decide +kernel, by decide +kernel, by decide +kernel⟩
def mX8_copiesTask : pb_M := (yX8_copiesTask, cX8_copiesTask, 4, none, [])
theorem kX8_copiesTask : pb_MI mX8_copiesTask 3 := ⟨rfl, tw1014, tw55, tw1015, by decide +kernel, by decide +kernel, by decide +kernel, by decide +kernel⟩
def mX8_copies : pb_M := (yX8_copies, cX8_copies, 4, none, [])
theorem kX8_copies : pb_MI mX8_copies 2 := ⟨rfl, tw1010, tw55, tw1011, by decide +kernel, by decide +kernel, by decide +kernel, by decide +kernel⟩
def mX8_setTask : pb_M := (yX8_setTask, cX8_setTask, 8, (some .boolean), [])
theorem kX8_setTask : pb_MI mX8_setTask 5 := ⟨rfl, tw916, tw55, tw918, by decide +kernel, by decide +kernel, by decide +kernel, by decide +kernel⟩
def mX8_isNeeded : pb_M := (yX8_isNeeded, cX8_isNeeded, 5, (some .boolean), [])
theorem kX8_isNeeded : pb_MI mX8_isNeeded 2 := ⟨rfl, tw954, tw55, tw955, by decide +kernel, by decide +kernel, by decide +kernel, by decide +kernel⟩
def mX8_removeTask : pb_M := (yX8_removeTask, cX8_removeTask, 6, (some .int), [])
theorem kX8_removeTask : pb_MI mX8_removeTask 2 := ⟨rfl, tw949, tw55, tw951, by decide +kernel, by decide +kernel, by decide +kernel, by decide +kernel⟩
def mX8_allNeeds : pb_M := (yX8_allNeeds, cX8_allNeeds, 6, (some .int), [])
theorem kX8_allNeeds : pb_MI mX8_allNeeds 2 := ⟨rfl, tw966, tw55, tw967, by decide +kernel, by decide +kernel, by decide +kernel, by decide +kernel⟩
def mX8_setNeed : pb_M := (yX8_setNeed, cX8_setNeed, 10, (some .boolean), [])
theorem kX8_setNeed : pb_MI mX8_setNeed 4 := ⟨rfl, tw961, tw55, tw963, by decide +kernel, by decide +kernel, by decide +kernel, by decide +kernel⟩
def mX8_undo : pb_M := (yX8_undo, cX8_undo, 3, (some .int), [])
theorem kX8_undo : pb_MI mX8_undo 1 := ⟨rfl, tw969, tw55, tw971, by decide +kernel, by decide +kernel, by decide +kernel, by decide +kernel⟩
def mX8_tasks0 : pb_M := (yX8_tasks0, cX8_tasks0, 4, (some .int), [])
theorem kX8_tasks0 : pb_MI mX8_tasks0 1 := ⟨rfl, tw978, tw55, tw979, by decide +kernel, by decide +kernel, by decide +kernel, by decide +kernel⟩
def mX8_tasks : pb_M := (yX8_tasks, cX8_tasks, 2, (some .int), [])
theorem kX8_tasks : pb_MI mX8_tasks 1 := ⟨rfl, tw973, tw55, tw975, by decide +kernel, by decide +kernel, by decide +kernel, by decide +kernel⟩
def mX8_asks : pb_M := (yX8_asks, cX8_asks, 3, (some .boolean), [])
theorem kX8_asks : pb_MI mX8_asks 2 := ⟨rfl, tw986, tw55, tw987, by decide +kernel, by decide +kernel, by decide +kernel, by decide +kernel⟩
def mX8_length : pb_M := (yX8_length, cX8_length, 3, (some .int), [])
theorem kX8_length : pb_MI mX8_length 2 := ⟨rfl, tw981, tw55, tw983, by decide +kernel, by decide +kernel, by decide +kernel, by decide +kernel⟩
def mX8_crew : pb_M := (yX8_crew, cX8_crew, 3, (some .int), [])
theorem kX8_crew : pb_MI mX8_crew 2 := ⟨rfl, tw989, tw55, tw991, by decide +kernel, by decide +kernel, by decide +kernel, by decide +kernel⟩
def mX8_needs : pb_M := (yX8_needs, cX8_needs, 3, (some .int), [])
theorem kX8_needs : pb_MI mX8_needs 2 := ⟨rfl, tw993, tw55, tw995, by decide +kernel, by decide +kernel, by decide +kernel, by decide +kernel⟩
def mX8_cost0 : pb_M := (yX8_cost0, cX8_cost0, 4, (some .int), [])
theorem kX8_cost0 : pb_MI mX8_cost0 1 := ⟨rfl, tw1002, tw55, tw1003, by decide +kernel, by decide +kernel, by decide +kernel, by decide +kernel⟩
def mX8_cost : pb_M := (yX8_cost, cX8_cost, 2, (some .int), [])
theorem kX8_cost : pb_MI mX8_cost 1 := ⟨rfl, tw997, tw55, tw999, by decide +kernel, by decide +kernel, by decide +kernel, by decide +kernel⟩
def mX8_forgets : pb_M := (yX8_forgets, cX8_forgets, 3, none, [])
theorem kX8_forgets : pb_MI mX8_forgets 1 := ⟨rfl, tw1018, tw55, tw1019, by decide +kernel, by decide +kernel, by decide +kernel, by decide +kernel⟩
def mX8_begin : pb_M := (yX8_begin, cX8_begin, 3, (some .int), [])
theorem kX8_begin : pb_MI mX8_begin 1 := ⟨rfl, tw1005, tw55, tw1007, by decide +kernel, by decide +kernel, by decide +kernel, by decide +kernel⟩
def mX8_branches : pb_M := (yX8_branches, cX8_branches, 1, (some .int), [])
theorem kX8_branches : pb_MI mX8_branches 0 := ⟨rfl, tw1021, tw55, tw1023, by decide +kernel, by decide +kernel, by decide +kernel, by decide +kernel⟩
def mX8_parent : pb_M := (yX8_parent, cX8_parent, 2, (some .int), [])
theorem kX8_parent : pb_MI mX8_parent 1 := ⟨rfl, tw1025, tw55, tw1027, by decide +kernel, by decide +kernel, by decide +kernel, by decide +kernel⟩
def mX8_setBudget : pb_M := (yX8_setBudget, cX8_setBudget, 4, (some .int), [])
theorem kX8_setBudget : pb_MI mX8_setBudget 2 := ⟨rfl, tw1029, tw55, tw1031, by decide +kernel, by decide +kernel, by decide +kernel, by decide +kernel⟩
def mX8_resolve : pb_M := (yX8_resolve, cX8_resolve, 6, (some .int), [])
theorem kX8_resolve : pb_MI mX8_resolve 3 := ⟨rfl, tw1033, tw55, tw1035, by decide +kernel, by decide +kernel, by decide +kernel, by decide +kernel⟩
def mX8_isSame : pb_M := (yX8_isSame, cX8_isSame, 6, (some .boolean), [])
theorem kX8_isSame : pb_MI mX8_isSame 3 := ⟨rfl, tw1050, tw55, tw1051, by decide +kernel, by decide +kernel, by decide +kernel, by decide +kernel⟩
def mX8_isOpen : pb_M := (yX8_isOpen, cX8_isOpen, 3, (some .boolean), [])
theorem kX8_isOpen : pb_MS mX8_isOpen 3 := ⟨tw1060, tw55, tw1061, by decide +kernel, by decide +kernel, by decide +kernel, by decide +kernel⟩
def mX8_mixed : pb_M := (yX8_mixed, cX8_mixed, 3, (some .int), [])
theorem kX8_mixed : pb_MS mX8_mixed 3 := ⟨tw1057, tw55, tw1058, by decide +kernel, by decide +kernel, by decide +kernel, by decide +kernel⟩
def mX8_mixes : pb_M := (yX8_mixes, cX8_mixes, 9, (some .boolean), [])
theorem kX8_mixes : pb_MI mX8_mixes 4 := ⟨rfl, tw1054, tw55, tw1055, by decide +kernel, by decide +kernel, by decide +kernel, by decide +kernel⟩
def mX8_joinsTask : pb_M := (yX8_joinsTask, cX8_joinsTask, 7, (some .boolean), [])
theorem kX8_joinsTask : pb_MI mX8_joinsTask 4 := ⟨rfl, tw1046, tw55, tw1047, by decide +kernel, by decide +kernel, by decide +kernel, by decide +kernel⟩
def mX8_joins : pb_M := (yX8_joins, cX8_joins, 5, (some .int), [])
theorem kX8_joins : pb_MI mX8_joins 1 := ⟨rfl, tw1042, tw55, tw1043, by decide +kernel, by decide +kernel, by decide +kernel, by decide +kernel⟩
def mX8_clashes : pb_M := (yX8_clashes, cX8_clashes, 2, (some .int), [])
theorem kX8_clashes : pb_MI mX8_clashes 1 := ⟨rfl, tw1037, tw55, tw1039, by decide +kernel, by decide +kernel, by decide +kernel, by decide +kernel⟩
def mX8_lowest : pb_M := (yX8_lowest, cX8_lowest, 2, (some .int), [])
theorem kX8_lowest : pb_MS mX8_lowest 1 := ⟨tw1115, tw55, tw1116, by decide +kernel, by decide +kernel, by decide +kernel, by decide +kernel⟩
def mX8_missing : pb_M := (yX8_missing, cX8_missing, 4, (some .int), [])
theorem kX8_missing : pb_MI mX8_missing 0 := ⟨rfl, tw1076, tw55, tw1077, by decide +kernel, by decide +kernel, by decide +kernel, by decide +kernel⟩
def mX8_rings : pb_M := (yX8_rings, cX8_rings, 3, (some .int), [])
theorem kX8_rings : pb_MI mX8_rings 0 := ⟨rfl, tw1080, tw55, tw1081, by decide +kernel, by decide +kernel, by decide +kernel, by decide +kernel⟩
def mX8_reasonNow : pb_M := (yX8_reasonNow, cX8_reasonNow, 4, (some .int), [])
theorem kX8_reasonNow : pb_MI mX8_reasonNow 2 := ⟨rfl, tw1072, tw55, tw1073, by decide +kernel, by decide +kernel, by decide +kernel, by decide +kernel⟩
def mX8_isOwn : pb_M := (yX8_isOwn, cX8_isOwn, 2, (some .boolean), [])
theorem kX8_isOwn : pb_MI mX8_isOwn 1 := ⟨rfl, tw1068, tw55, tw1069, by decide +kernel, by decide +kernel, by decide +kernel, by decide +kernel⟩
def mX8_reason : pb_M := (yX8_reason, cX8_reason, 3, (some .int), [])
theorem kX8_reason : pb_MI mX8_reason 2 := ⟨rfl, tw1063, tw55, tw1065, by decide +kernel, by decide +kernel, by decide +kernel, by decide +kernel⟩
def mX8_reasonTask : pb_M := (yX8_reasonTask, cX8_reasonTask, 5, (some .int), [])
theorem kX8_reasonTask : pb_MI mX8_reasonTask 2 := ⟨rfl, tw1111, tw55, tw1113, by decide +kernel, by decide +kernel, by decide +kernel, by decide +kernel⟩
def mX8_becomes : pb_M := (yX8_becomes, cX8_becomes, 4, (some .int), [])
theorem kX8_becomes : pb_MI mX8_becomes 1 := ⟨rfl, tw1123, tw55, tw1124, by decide +kernel, by decide +kernel, by decide +kernel, by decide +kernel⟩
def mX8_merge : pb_M := (yX8_merge, cX8_merge, 5, (some .int), [])
theorem kX8_merge : pb_MI mX8_merge 1 := ⟨rfl, tw1118, tw55, tw1120, by decide +kernel, by decide +kernel, by decide +kernel, by decide +kernel⟩
def mX8_update : pb_M := (yX8_update, cX8_update, 5, (some .int), [])
theorem kX8_update : pb_MI mX8_update 1 := ⟨rfl, tw1126, tw55, tw1128, by decide +kernel, by decide +kernel, by decide +kernel, by decide +kernel⟩
def mX8_isCrew : pb_M := (yX8_isCrew, cX8_isCrew, 1, (some .boolean), [])
theorem kX8_isCrew : pb_MS mX8_isCrew 1 := ⟨tw1134, tw55, tw1135, by decide +kernel, by decide +kernel, by decide +kernel, by decide +kernel⟩
def mX8_isDay : pb_M := (yX8_isDay, cX8_isDay, 1, (some .boolean), [])
theorem kX8_isDay : pb_MS mX8_isDay 1 := ⟨tw1141, tw55, tw1142, by decide +kernel, by decide +kernel, by decide +kernel, by decide +kernel⟩
def mX8_give : pb_M := (yX8_give, cX8_give, 4, (some .int), [])
theorem kX8_give : pb_MI mX8_give 2 := ⟨rfl, tw1130, tw55, tw1132, by decide +kernel, by decide +kernel, by decide +kernel, by decide +kernel⟩
def mX8_lend : pb_M := (yX8_lend, cX8_lend, 6, (some .int), [])
theorem kX8_lend : pb_MI mX8_lend 4 := ⟨rfl, tw1137, tw55, tw1139, by decide +kernel, by decide +kernel, by decide +kernel, by decide +kernel⟩
def mX8_holds : pb_M := (yX8_holds, cX8_holds, 5, (some .int), [])
theorem kX8_holds : pb_MI mX8_holds 2 := ⟨rfl, tw1100, tw55, tw1101, by decide +kernel, by decide +kernel, by decide +kernel, by decide +kernel⟩
def mX8_holder : pb_M := (yX8_holder, cX8_holder, 3, (some .int), [])
theorem kX8_holder : pb_MI mX8_holder 2 := ⟨rfl, tw1144, tw55, tw1146, by decide +kernel, by decide +kernel, by decide +kernel, by decide +kernel⟩
def mX8_goes : pb_M := (yX8_goes, cX8_goes, 6, (some .int), [])
theorem kX8_goes : pb_MI mX8_goes 1 := ⟨rfl, tw1088, tw55, tw1089, by decide +kernel, by decide +kernel, by decide +kernel, by decide +kernel⟩
def mX8_tail : pb_M := (yX8_tail, cX8_tail, 4, (some .int), [])
theorem kX8_tail : pb_MI mX8_tail 2 := ⟨rfl, tw1148, tw55, tw1150, by decide +kernel, by decide +kernel, by decide +kernel, by decide +kernel⟩
def mX8_slack : pb_M := (yX8_slack, cX8_slack, 4, (some .int), [])
theorem kX8_slack : pb_MI mX8_slack 2 := ⟨rfl, tw1152, tw55, tw1154, by decide +kernel, by decide +kernel, by decide +kernel, by decide +kernel⟩
def mX8_critical : pb_M := (yX8_critical, cX8_critical, 5, (some .int), [])
theorem kX8_critical : pb_MI mX8_critical 1 := ⟨rfl, tw1156, tw55, tw1158, by decide +kernel, by decide +kernel, by decide +kernel, by decide +kernel⟩
def mX8_way : pb_M := (yX8_way, cX8_way, 2, (some .int), [])
theorem kX8_way : pb_MI mX8_way 1 := ⟨rfl, tw1160, tw55, tw1162, by decide +kernel, by decide +kernel, by decide +kernel, by decide +kernel⟩
def mX8_clears : pb_M := (yX8_clears, cX8_clears, 2, none, [])
theorem kX8_clears : pb_MI mX8_clears 0 := ⟨rfl, tw1092, tw55, tw1093, by decide +kernel, by decide +kernel, by decide +kernel, by decide +kernel⟩
def mX8_finds : pb_M := (yX8_finds, cX8_finds, 3, none, [])
theorem kX8_finds : pb_MI mX8_finds 1 := ⟨rfl, tw1096, tw55, tw1097, by decide +kernel, by decide +kernel, by decide +kernel, by decide +kernel⟩
def mX8_isReady : pb_M := (yX8_isReady, cX8_isReady, 5, (some .boolean), [])
theorem kX8_isReady : pb_MI mX8_isReady 2 := ⟨rfl, tw1104, tw55, tw1105, by decide +kernel, by decide +kernel, by decide +kernel, by decide +kernel⟩
def mX8_places : pb_M := (yX8_places, cX8_places, 9, (some .int), [])
theorem kX8_places : pb_MI mX8_places 2 := ⟨rfl, tw1108, tw55, tw1109, by decide +kernel, by decide +kernel, by decide +kernel, by decide +kernel⟩
def mX8_unplaced : pb_M := (yX8_unplaced, cX8_unplaced, 8, (some .int), [])
theorem kX8_unplaced : pb_MI mX8_unplaced 2 := ⟨rfl, tw1084, tw55, tw1085, by decide +kernel, by decide +kernel, by decide +kernel, by decide +kernel⟩
def mX8_firstDay : pb_M := (yX8_firstDay, cX8_firstDay, 4, (some .int), [])
theorem kX8_firstDay : pb_MI mX8_firstDay 2 := ⟨rfl, tw1164, tw55, tw1166, by decide +kernel, by decide +kernel, by decide +kernel, by decide +kernel⟩
def mX8_leftOut : pb_M := (yX8_leftOut, cX8_leftOut, 2, (some .int), [])
theorem kX8_leftOut : pb_MI mX8_leftOut 1 := ⟨rfl, tw1168, tw55, tw1170, by decide +kernel, by decide +kernel, by decide +kernel, by decide +kernel⟩
def mX8_last : pb_M := (yX8_last, cX8_last, 5, (some .int), [])
theorem kX8_last : pb_MI mX8_last 1 := ⟨rfl, tw1177, tw55, tw1178, by decide +kernel, by decide +kernel, by decide +kernel, by decide +kernel⟩
def mX8_lastDay : pb_M := (yX8_lastDay, cX8_lastDay, 3, (some .int), [])
theorem kX8_lastDay : pb_MI mX8_lastDay 1 := ⟨rfl, tw1172, tw55, tw1174, by decide +kernel, by decide +kernel, by decide +kernel, by decide +kernel⟩
def mX8_count : pb_M := (yX8_count, cX8_count, 3, (some .int), [])
theorem kX8_count : pb_MS mX8_count 1 := ⟨tw1184, tw55, tw1185, by decide +kernel, by decide +kernel, by decide +kernel, by decide +kernel⟩
def mX8_byOrder : pb_M := (yX8_byOrder, cX8_byOrder, 4, (some .int), [])
theorem kX8_byOrder : pb_MI mX8_byOrder 2 := ⟨rfl, tw1188, tw55, tw1189, by decide +kernel, by decide +kernel, by decide +kernel, by decide +kernel⟩
def mX8_turns : pb_M := (yX8_turns, cX8_turns, 7, (some .boolean), [])
theorem kX8_turns : pb_MI mX8_turns 1 := ⟨rfl, tw1192, tw55, tw1193, by decide +kernel, by decide +kernel, by decide +kernel, by decide +kernel⟩
def mX8_lastDayByAll : pb_M := (yX8_lastDayByAll, cX8_lastDayByAll, 7, (some .int), [])
theorem kX8_lastDayByAll : pb_MI mX8_lastDayByAll 1 := ⟨rfl, tw1180, tw55, tw1182, by decide +kernel, by decide +kernel, by decide +kernel, by decide +kernel⟩
def mX8_taskOn : pb_M := (yX8_taskOn, cX8_taskOn, 5, (some .int), [])
theorem kX8_taskOn : pb_MI mX8_taskOn 3 := ⟨rfl, tw1195, tw55, tw1197, by decide +kernel, by decide +kernel, by decide +kernel, by decide +kernel⟩
def mJ6_bitCount_0f7a4 : pb_M := (yJ6_bitCount_0f7a4, cJ6_bitCount_0f7a4, 1, (some .int), [])
theorem kJ6_bitCount_0f7a4 : pb_MS mJ6_bitCount_0f7a4 1 := ⟨tw793, tw64, tw794, by decide +kernel, by decide +kernel, by decide +kernel, by decide +kernel⟩
def mJ9_max_7cf53 : pb_M := (yJ9_max_7cf53, cJ9_max_7cf53, 2, (some .int), [])
theorem kJ9_max_7cf53 : pb_MS mJ9_max_7cf53 2 := ⟨tw619, tw62, tw620, by decide +kernel, by decide +kernel, by decide +kernel, by decide +kernel⟩
def mJ7_fill_53178 : pb_M := (yJ7_fill_53178, cJ7_fill_53178, 4, none, [])
theorem kJ7_fill_53178 : pb_MS mJ7_fill_53178 2 := ⟨tw626, tw63, tw627, by decide +kernel, by decide +kernel, by decide +kernel, by decide +kernel⟩
def mL_setTask : pb_M := (yL_setTask, cL_setTask, 8, (some .int), [(0, 23, 26, 13), (0, 23, 30, 15)])
theorem kL_setTask : pb_MS mL_setTask 7 := ⟨tw284, tw46, tw285, by decide +kernel, by decide +kernel, by decide +kernel, by decide +kernel⟩
def mL_removeTask : pb_M := (yL_removeTask, cL_removeTask, 5, (some .int), [(0, 10, 13, 13), (0, 10, 17, 15), (0, 10, 21, 21)])
theorem kL_removeTask : pb_MS mL_removeTask 4 := ⟨tw399, tw46, tw400, by decide +kernel, by decide +kernel, by decide +kernel, by decide +kernel⟩
def mL_setNeed : pb_M := (yL_setNeed, cL_setNeed, 7, (some .int), [(0, 21, 24, 13), (0, 21, 28, 15), (0, 21, 32, 21)])
theorem kL_setNeed : pb_MS mL_setNeed 6 := ⟨tw436, tw46, tw437, by decide +kernel, by decide +kernel, by decide +kernel, by decide +kernel⟩
def mL_undo : pb_M := (yL_undo, cL_undo, 4, (some .int), [(0, 9, 12, 13), (0, 9, 15, 21)])
theorem kL_undo : pb_MS mL_undo 3 := ⟨tw451, tw46, tw452, by decide +kernel, by decide +kernel, by decide +kernel, by decide +kernel⟩
def mL_tasks : pb_M := (yL_tasks, cL_tasks, 4, (some .int), [(0, 9, 12, 13)])
theorem kL_tasks : pb_MS mL_tasks 3 := ⟨tw464, tw46, tw465, by decide +kernel, by decide +kernel, by decide +kernel, by decide +kernel⟩
def mL_length : pb_M := (yL_length, cL_length, 5, (some .int), [(0, 10, 13, 13), (0, 10, 17, 15)])
theorem kL_length : pb_MS mL_length 4 := ⟨tw476, tw46, tw477, by decide +kernel, by decide +kernel, by decide +kernel, by decide +kernel⟩
def mL_crew : pb_M := (yL_crew, cL_crew, 5, (some .int), [(0, 10, 13, 13), (0, 10, 17, 15)])
theorem kL_crew : pb_MS mL_crew 4 := ⟨tw483, tw46, tw484, by decide +kernel, by decide +kernel, by decide +kernel, by decide +kernel⟩
def mL_needs : pb_M := (yL_needs, cL_needs, 5, (some .int), [(0, 10, 13, 13), (0, 10, 17, 15)])
theorem kL_needs : pb_MS mL_needs 4 := ⟨tw490, tw46, tw491, by decide +kernel, by decide +kernel, by decide +kernel, by decide +kernel⟩
def mL_cost : pb_M := (yL_cost, cL_cost, 4, (some .int), [(0, 9, 12, 13)])
theorem kL_cost : pb_MS mL_cost 3 := ⟨tw497, tw46, tw498, by decide +kernel, by decide +kernel, by decide +kernel, by decide +kernel⟩
def mL_begin : pb_M := (yL_begin, cL_begin, 4, (some .int), [(0, 9, 12, 13), (0, 9, 15, 21)])
theorem kL_begin : pb_MS mL_begin 3 := ⟨tw508, tw46, tw509, by decide +kernel, by decide +kernel, by decide +kernel, by decide +kernel⟩
def mL_parent : pb_M := (yL_parent, cL_parent, 4, (some .int), [(0, 9, 12, 13)])
theorem kL_parent : pb_MS mL_parent 3 := ⟨tw528, tw46, tw529, by decide +kernel, by decide +kernel, by decide +kernel, by decide +kernel⟩
def mL_setBudget : pb_M := (yL_setBudget, cL_setBudget, 5, (some .int), [(0, 10, 13, 13), (0, 10, 17, 15)])
theorem kL_setBudget : pb_MS mL_setBudget 4 := ⟨tw535, tw46, tw536, by decide +kernel, by decide +kernel, by decide +kernel, by decide +kernel⟩
def mL_resolve : pb_M := (yL_resolve, cL_resolve, 6, (some .int), [(0, 12, 15, 13), (0, 12, 19, 15), (0, 12, 23, 21)])
theorem kL_resolve : pb_MS mL_resolve 5 := ⟨tw543, tw46, tw544, by decide +kernel, by decide +kernel, by decide +kernel, by decide +kernel⟩
def mL_clashes : pb_M := (yL_clashes, cL_clashes, 4, (some .int), [(0, 9, 12, 13)])
theorem kL_clashes : pb_MS mL_clashes 3 := ⟨tw551, tw46, tw552, by decide +kernel, by decide +kernel, by decide +kernel, by decide +kernel⟩
def mL_reason : pb_M := (yL_reason, cL_reason, 5, (some .int), [(0, 10, 13, 13), (0, 10, 17, 21)])
theorem kL_reason : pb_MS mL_reason 4 := ⟨tw582, tw46, tw583, by decide +kernel, by decide +kernel, by decide +kernel, by decide +kernel⟩
def mL_reasonTask : pb_M := (yL_reasonTask, cL_reasonTask, 5, (some .int), [(0, 10, 13, 13), (0, 10, 17, 21)])
theorem kL_reasonTask : pb_MS mL_reasonTask 4 := ⟨tw664, tw46, tw665, by decide +kernel, by decide +kernel, by decide +kernel, by decide +kernel⟩
def mL_merge : pb_M := (yL_merge, cL_merge, 4, (some .int), [(0, 9, 12, 13), (0, 9, 15, 21)])
theorem kL_merge : pb_MS mL_merge 3 := ⟨tw674, tw46, tw675, by decide +kernel, by decide +kernel, by decide +kernel, by decide +kernel⟩
def mL_update : pb_M := (yL_update, cL_update, 4, (some .int), [(0, 9, 12, 13), (0, 9, 15, 21)])
theorem kL_update : pb_MS mL_update 3 := ⟨tw694, tw46, tw695, by decide +kernel, by decide +kernel, by decide +kernel, by decide +kernel⟩
def mL_give : pb_M := (yL_give, cL_give, 5, (some .int), [(0, 10, 13, 13), (0, 10, 17, 15)])
theorem kL_give : pb_MS mL_give 4 := ⟨tw702, tw46, tw703, by decide +kernel, by decide +kernel, by decide +kernel, by decide +kernel⟩
def mL_lend : pb_M := (yL_lend, cL_lend, 7, (some .int), [(0, 14, 17, 13), (0, 14, 21, 15), (0, 14, 25, 21)])
theorem kL_lend : pb_MS mL_lend 6 := ⟨tw709, tw46, tw710, by decide +kernel, by decide +kernel, by decide +kernel, by decide +kernel⟩
def mL_holder : pb_M := (yL_holder, cL_holder, 5, (some .int), [(0, 10, 13, 15)])
theorem kL_holder : pb_MS mL_holder 4 := ⟨tw721, tw46, tw722, by decide +kernel, by decide +kernel, by decide +kernel, by decide +kernel⟩
def mL_tail : pb_M := (yL_tail, cL_tail, 5, (some .int), [(0, 10, 13, 13), (0, 10, 17, 15)])
theorem kL_tail : pb_MS mL_tail 4 := ⟨tw729, tw46, tw730, by decide +kernel, by decide +kernel, by decide +kernel, by decide +kernel⟩
def mL_slack : pb_M := (yL_slack, cL_slack, 5, (some .int), [(0, 10, 13, 13), (0, 10, 17, 15)])
theorem kL_slack : pb_MS mL_slack 4 := ⟨tw736, tw46, tw737, by decide +kernel, by decide +kernel, by decide +kernel, by decide +kernel⟩
def mL_critical : pb_M := (yL_critical, cL_critical, 4, (some .int), [(0, 9, 12, 13)])
theorem kL_critical : pb_MS mL_critical 3 := ⟨tw747, tw46, tw748, by decide +kernel, by decide +kernel, by decide +kernel, by decide +kernel⟩
def mL_way : pb_M := (yL_way, cL_way, 4, (some .int), [(0, 9, 12, 13)])
theorem kL_way : pb_MS mL_way 3 := ⟨tw754, tw46, tw755, by decide +kernel, by decide +kernel, by decide +kernel, by decide +kernel⟩
def mL_firstDay : pb_M := (yL_firstDay, cL_firstDay, 5, (some .int), [(0, 10, 13, 13), (0, 10, 17, 15)])
theorem kL_firstDay : pb_MS mL_firstDay 4 := ⟨tw761, tw46, tw762, by decide +kernel, by decide +kernel, by decide +kernel, by decide +kernel⟩
def mL_leftOut : pb_M := (yL_leftOut, cL_leftOut, 4, (some .int), [(0, 9, 12, 13)])
theorem kL_leftOut : pb_MS mL_leftOut 3 := ⟨tw768, tw46, tw769, by decide +kernel, by decide +kernel, by decide +kernel, by decide +kernel⟩
def mL_lastDay : pb_M := (yL_lastDay, cL_lastDay, 4, (some .int), [(0, 9, 12, 13)])
theorem kL_lastDay : pb_MS mL_lastDay 3 := ⟨tw775, tw46, tw776, by decide +kernel, by decide +kernel, by decide +kernel, by decide +kernel⟩
def mL_lastDayByAll : pb_M := (yL_lastDayByAll, cL_lastDayByAll, 4, (some .int), [(0, 9, 12, 13), (0, 9, 15, 21)])
theorem kL_lastDayByAll : pb_MS mL_lastDayByAll 3 := ⟨tw786, tw46, tw787, by decide +kernel, by decide +kernel, by decide +kernel, by decide +kernel⟩
def mL_taskOn : pb_M := (yL_taskOn, cL_taskOn, 6, (some .int), [(0, 12, 15, 13), (0, 12, 19, 15)])
theorem kL_taskOn : pb_MS mL_taskOn 5 := ⟨tw811, tw46, tw812, by decide +kernel, by decide +kernel, by decide +kernel, by decide +kernel⟩
end
section
theorem pb_inc {a : Nat} : nI a + Int32.ofInt 1 = nI (a + 1) := nI_1 a
theorem pb_kle {a b : Nat} {P : Prop} (h : a ≤ b) (hb : b < 2147483648) (c : ¬ nI a ≤ nI b) : P := absurd (nI_le h hb) c
theorem pb_kge {a b : Nat} {P : Prop} (h : a < b) (hb : b < 2147483648) (c : nI b ≤ nI a) : P := absurd c (nI_ge h hb)
/-- bit t of a set -/
def pb_in (s : Int32) (t : Nat) : Bool := s.toBitVec.getLsbD t
theorem pb_smod : ∀ t, t < 32 → ((nI t &&& 31).toBitVec.smod 32).toNat = t := by decide +kernel
theorem pb_in_ext {x y : Int32} (h : ∀ j, j < 32 → pb_in x j = pb_in y j) : x = y := by
  apply Int32.toBitVec_inj.mp
  exact BitVec.eq_of_getLsbD_eq fun i hi => h i hi
theorem pb_in_or (x y : Int32) (j : Nat) : pb_in (x ||| y) j = (pb_in x j || pb_in y j) := by
  unfold pb_in; rw [Int32.toBitVec_or, BitVec.getLsbD_or]
theorem pb_in_and (x y : Int32) (j : Nat) : pb_in (x &&& y) j = (pb_in x j && pb_in y j) := by
  unfold pb_in; rw [Int32.toBitVec_and, BitVec.getLsbD_and]
theorem pb_in_xor (x y : Int32) (j : Nat) : pb_in (x ^^^ y) j = (pb_in x j ^^ pb_in y j) := by
  unfold pb_in; rw [Int32.toBitVec_xor, BitVec.getLsbD_xor]
theorem pb_in_m1 {j : Nat} (h : j < 32) : pb_in (-1) j = true := by
  have : ∀ j, j < 32 → pb_in (-1) j = true := by decide +kernel
  exact this j h
theorem pb_in_0 (j : Nat) : pb_in (nI 0) j = false := by
  unfold pb_in
  show (0#32).getLsbD j = false
  simp
theorem pb_in_bit {t j : Nat} (ht : t < 32) (hj : j < 32) : pb_in (nI 1 <<< (nI t &&& 31)) j = decide (j = t) := by
  have : ∀ t, t < 32 → ∀ j, j < 32 → pb_in (nI 1 <<< (nI t &&& 31)) j = decide (j = t) := by decide +kernel
  exact this t ht j hj
theorem pb_in_big {x : Int32} {j : Nat} (h : 32 ≤ j) : pb_in x j = false := by
  unfold pb_in
  exact BitVec.getLsbD_of_ge _ _ h
/-- what 'contains' works out -/
theorem pb_in_sh {x : Int32} {t : Nat} (ht : t < 32) : (((x >>> (nI t &&& 31)) &&& nI 1) = 0) ↔ pb_in x t = false := by
  have e1 : ((x >>> (nI t &&& 31)) &&& nI 1).toBitVec = (x.toBitVec.sshiftRight t) &&& 1#32 := by
    rw [Int32.toBitVec_and, Int32.toBitVec_shiftRight]
    unfold BitVec.sshiftRight'
    rw [pb_smod t ht]
    rfl
  have e2 : pb_in x t = ((x.toBitVec.sshiftRight t) &&& 1#32).getLsbD 0 := by
    unfold pb_in
    rw [BitVec.getLsbD_and, BitVec.getLsbD_sshiftRight]
    have : (1#32).getLsbD 0 = true := by decide
    simp [this]
    omega
  constructor
  · intro h
    rw [e2, ← e1, h]
    rfl
  · intro h
    apply Int32.toBitVec_inj.mp
    rw [e1]
    apply BitVec.eq_of_getLsbD_eq
    intro i hi
    rw [e2] at h
    by_cases e : i = 0
    · subst e
      rw [h]; rfl
    · rw [BitVec.getLsbD_and]
      have : (1#32).getLsbD i = false := by
        have : ∀ i, i < 32 → ¬ i = 0 → (1#32).getLsbD i = false := by decide +kernel
        exact this i hi e
      rw [this]
      simp
theorem pb_in_sh1 {x : Int32} {t : Nat} (ht : t < 32) : (((x >>> (nI t &&& 31)) &&& nI 1) = nI 1) ↔ pb_in x t = true := by
  constructor
  · intro h
    cases e : pb_in x t
    · rw [← pb_in_sh ht] at e
      rw [h] at e
      exact absurd e (by decide)
    · rfl
  · intro h
    have h1 : ¬ ((x >>> (nI t &&& 31)) &&& nI 1) = 0 := fun q => by rw [pb_in_sh ht, h] at q; cases q
    apply pb_in_ext
    intro j hj
    rw [pb_in_and]
    have h9 : ∀ j, j < 32 → ¬ j = 0 → pb_in (nI 1) j = false := by decide +kernel
    by_cases e : j = 0
    · subst e
      have : pb_in (nI 1) 0 = true := by decide
      rw [this, Bool.and_true]
      cases e2 : pb_in (x >>> (nI t &&& 31)) 0
      · exfalso
        apply h1
        apply pb_in_ext
        intro i hi
        rw [pb_in_and]
        by_cases e3 : i = 0
        · subst e3
          rw [e2]; decide
        · rw [h9 i hi e3]
          have : ∀ i, i < 32 → pb_in 0 i = false := by decide +kernel
          rw [this i hi, Bool.and_false]
      · rfl
    · rw [h9 j hj e, Bool.and_false]
/-- the set of all i below n with c -/
def pb_set (c : Nat → Bool) : Nat → Int32
  | 0 => nI 0
  | n + 1 => if c n = true then pb_set c n ||| (nI 1 <<< (nI n &&& 31)) else pb_set c n
theorem pb_set_t {c : Nat → Bool} {n : Nat} (h : c n = true) : pb_set c (n + 1) = pb_set c n ||| (nI 1 <<< (nI n &&& 31)) := if_pos h
theorem pb_set_f {c : Nat → Bool} {n : Nat} (h : c n = false) : pb_set c (n + 1) = pb_set c n := if_neg (by rw [h]; decide)
theorem pb_set_in (c : Nat → Bool) (n : Nat) (hn : n ≤ 32) (j : Nat) (hj : j < 32) : pb_in (pb_set c n) j = (decide (j < n) && c j) := by
  induction n with
  | zero => simp [pb_set, pb_in_0]
  | succ n ih =>
    have ih := ih (by omega)
    cases e : c n
    · rw [pb_set_f e, ih]
      by_cases e2 : j = n
      · subst e2
        simp [e]
      · have : (decide (j < n + 1)) = decide (j < n) := by
          apply decide_eq_decide.mpr; omega
        rw [this]
    · rw [pb_set_t e, pb_in_or, ih, pb_in_bit (by omega) hj]
      by_cases e2 : j = n
      · subst e2
        simp [e]
      · have : (decide (j < n + 1)) = decide (j < n) := by
          apply decide_eq_decide.mpr; omega
        rw [this]
        simp [e2]
theorem pb_set_congr {c c' : Nat → Bool} {n : Nat} (h : ∀ i, i < n → c i = c' i) : pb_set c n = pb_set c' n := by
  induction n with
  | zero => rfl
  | succ n ih =>
    have ih := ih (fun i hi => h i (by omega))
    unfold pb_set
    rw [ih, h n (by omega)]
def pb_sum (f : Nat → Int32) : Nat → Int32
  | 0 => nI 0
  | n + 1 => pb_sum f n + f n
theorem pb_sum_congr {f f' : Nat → Int32} {n : Nat} (h : ∀ i, i < n → f i = f' i) : pb_sum f n = pb_sum f' n := by
  induction n with
  | zero => rfl
  | succ n ih =>
    unfold pb_sum
    rw [ih (fun i hi => h i (by omega)), h n (by omega)]
def pb_cnt (c : Nat → Bool) : Nat → Nat
  | 0 => 0
  | n + 1 => if c n = true then pb_cnt c n + 1 else pb_cnt c n
theorem pb_cnt_congr {c c' : Nat → Bool} {n : Nat} (h : ∀ i, i < n → c i = c' i) : pb_cnt c n = pb_cnt c' n := by
  induction n with
  | zero => rfl
  | succ n ih =>
    unfold pb_cnt
    rw [ih (fun i hi => h i (by omega)), h n (by omega)]
theorem pb_cnt_le (c : Nat → Bool) (n : Nat) : pb_cnt c n ≤ n := by
  induction n with
  | zero => exact Nat.le_refl 0
  | succ n ih =>
    unfold pb_cnt
    split <;> omega
/-- s with f j for each j below n in s0 -/
def pb_orN (f : Nat → Int32) (s0 s : Int32) : Nat → Int32
  | 0 => s
  | n + 1 => if pb_in s0 n = true then pb_orN f s0 s n ||| f n else pb_orN f s0 s n
theorem pb_orN_t {f : Nat → Int32} {s0 s : Int32} {n : Nat} (h : pb_in s0 n = true) : pb_orN f s0 s (n + 1) = pb_orN f s0 s n ||| f n := if_pos h
theorem pb_orN_f {f : Nat → Int32} {s0 s : Int32} {n : Nat} (h : pb_in s0 n = false) : pb_orN f s0 s (n + 1) = pb_orN f s0 s n := if_neg (by rw [h]; decide)
/-- rounds of all needs of needs -/
def pb_it (f : Nat → Int32) : Nat → Int32 → Int32
  | 0, s => s
  | n + 1, s => pb_it f n (pb_orN f s s 16)
theorem pb_it_fix {f : Nat → Int32} {s : Int32} (h : pb_orN f s s 16 = s) (n : Nat) : pb_it f n s = s := by
  induction n with
  | zero => rfl
  | succ n ih =>
    unfold pb_it
    rw [h]; exact ih
def pb_has (len : Nat → Int32) (t : Nat) : Bool := decide (0 < len t)
def pb_pres (len : Nat → Int32) : Int32 := pb_set (pb_has len) 16
def pb_low (s : Int32) : Nat → Int32
  | 0 => -1
  | n + 1 => if pb_in s (15 - n) = true then nI (15 - n) else pb_low s n
/-- a plan of the class at p: its four rows of 16 stand behind it -/
def pb_plan (sk : pb_Sk) (rf : pb_Rf) (p : Nat) : Prop := sk p = (10, 0) ∧ rf p 0 = some (p + 1) ∧ rf p 1 = some (p + 2) ∧ rf p 2 = some (p + 3) ∧ rf p 3 = some (p + 4) ∧ sk (p + 1) = (1, 16) ∧ sk (p + 2) = (1, 16) ∧ sk (p + 3) = (1, 16) ∧ sk (p + 4) = (1, 16)
def pb_same (sg : pb_Sg) (p r t : Nat) : Bool := decide (sg (p + 1) t = sg (r + 1) t ∧ sg (p + 2) t = sg (r + 2) t ∧ sg (p + 3) t = sg (r + 3) t ∧ sg (p + 4) t = sg (r + 4) t)
end
section
theorem pb_ne_f {b : Bool} (h : ¬ b = false) : b = true := by
  cases b
  · exact absurd rfl h
  · rfl
theorem dX4_has_0 : decode cX4_has 0 = .ok (.aload_n 0, 1) := by decide +kernel
theorem dX4_has_1 : decode cX4_has 1 = .ok (.getfield 9, 3) := by decide +kernel
theorem dX4_has_4 : decode cX4_has 4 = .ok (.iload_n 1, 1) := by decide +kernel
theorem dX4_has_5 : decode cX4_has 5 = .ok (.iaload, 1) := by decide +kernel
theorem dX4_has_6 : decode cX4_has 6 = .ok (.ifCond .le 7, 3) := by decide +kernel
theorem dX4_has_9 : decode cX4_has 9 = .ok (.iconst 1, 1) := by decide +kernel
theorem dX4_has_10 : decode cX4_has 10 = .ok (.goto 4, 3) := by decide +kernel
theorem dX4_has_13 : decode cX4_has 13 = .ok (.iconst 0, 1) := by decide +kernel
theorem dX4_has_14 : decode cX4_has 14 = .ok (.ireturn, 1) := by decide +kernel
theorem dX4_put_0 : decode cX4_put 0 = .ok (.aload_n 0, 1) := by decide +kernel
theorem dX4_put_1 : decode cX4_put 1 = .ok (.getfield 9, 3) := by decide +kernel
theorem dX4_put_4 : decode cX4_put 4 = .ok (.iload_n 1, 1) := by decide +kernel
theorem dX4_put_5 : decode cX4_put 5 = .ok (.iload_n 2, 1) := by decide +kernel
theorem dX4_put_6 : decode cX4_put 6 = .ok (.iastore, 1) := by decide +kernel
theorem dX4_put_7 : decode cX4_put 7 = .ok (.aload_n 0, 1) := by decide +kernel
theorem dX4_put_8 : decode cX4_put 8 = .ok (.getfield 15, 3) := by decide +kernel
theorem dX4_put_11 : decode cX4_put 11 = .ok (.iload_n 1, 1) := by decide +kernel
theorem dX4_put_12 : decode cX4_put 12 = .ok (.iload_n 3, 1) := by decide +kernel
theorem dX4_put_13 : decode cX4_put 13 = .ok (.iastore, 1) := by decide +kernel
theorem dX4_put_14 : decode cX4_put 14 = .ok (.aload_n 0, 1) := by decide +kernel
theorem dX4_put_15 : decode cX4_put 15 = .ok (.getfield 18, 3) := by decide +kernel
theorem dX4_put_18 : decode cX4_put 18 = .ok (.iload_n 1, 1) := by decide +kernel
theorem dX4_put_19 : decode cX4_put 19 = .ok (.iload 4, 2) := by decide +kernel
theorem dX4_put_21 : decode cX4_put 21 = .ok (.iastore, 1) := by decide +kernel
theorem dX4_put_22 : decode cX4_put 22 = .ok (.aload_n 0, 1) := by decide +kernel
theorem dX4_put_23 : decode cX4_put 23 = .ok (.getfield 21, 3) := by decide +kernel
theorem dX4_put_26 : decode cX4_put 26 = .ok (.iload_n 1, 1) := by decide +kernel
theorem dX4_put_27 : decode cX4_put 27 = .ok (.iload 5, 2) := by decide +kernel
theorem dX4_put_29 : decode cX4_put 29 = .ok (.iastore, 1) := by decide +kernel
theorem dX4_put_30 : decode cX4_put 30 = .ok (.return_, 1) := by decide +kernel
theorem dX4_clear_0 : decode cX4_clear 0 = .ok (.aload_n 0, 1) := by decide +kernel
theorem dX4_clear_1 : decode cX4_clear 1 = .ok (.iload_n 1, 1) := by decide +kernel
theorem dX4_clear_2 : decode cX4_clear 2 = .ok (.iconst 0, 1) := by decide +kernel
theorem dX4_clear_3 : decode cX4_clear 3 = .ok (.iconst (-1), 1) := by decide +kernel
theorem dX4_clear_4 : decode cX4_clear 4 = .ok (.iconst 0, 1) := by decide +kernel
theorem dX4_clear_5 : decode cX4_clear 5 = .ok (.iconst 0, 1) := by decide +kernel
theorem dX4_clear_6 : decode cX4_clear 6 = .ok (.invokevirtual 24, 3) := by decide +kernel
theorem dX4_clear_9 : decode cX4_clear 9 = .ok (.return_, 1) := by decide +kernel
theorem dX4_take_0 : decode cX4_take 0 = .ok (.aload_n 0, 1) := by decide +kernel
theorem dX4_take_1 : decode cX4_take 1 = .ok (.iload_n 2, 1) := by decide +kernel
theorem dX4_take_2 : decode cX4_take 2 = .ok (.aload_n 1, 1) := by decide +kernel
theorem dX4_take_3 : decode cX4_take 3 = .ok (.getfield 9, 3) := by decide +kernel
theorem dX4_take_6 : decode cX4_take 6 = .ok (.iload_n 2, 1) := by decide +kernel
theorem dX4_take_7 : decode cX4_take 7 = .ok (.iaload, 1) := by decide +kernel
theorem dX4_take_8 : decode cX4_take 8 = .ok (.aload_n 1, 1) := by decide +kernel
theorem dX4_take_9 : decode cX4_take 9 = .ok (.getfield 15, 3) := by decide +kernel
theorem dX4_take_12 : decode cX4_take 12 = .ok (.iload_n 2, 1) := by decide +kernel
theorem dX4_take_13 : decode cX4_take 13 = .ok (.iaload, 1) := by decide +kernel
theorem dX4_take_14 : decode cX4_take 14 = .ok (.aload_n 1, 1) := by decide +kernel
theorem dX4_take_15 : decode cX4_take 15 = .ok (.getfield 18, 3) := by decide +kernel
theorem dX4_take_18 : decode cX4_take 18 = .ok (.iload_n 2, 1) := by decide +kernel
theorem dX4_take_19 : decode cX4_take 19 = .ok (.iaload, 1) := by decide +kernel
theorem dX4_take_20 : decode cX4_take 20 = .ok (.aload_n 1, 1) := by decide +kernel
theorem dX4_take_21 : decode cX4_take 21 = .ok (.getfield 21, 3) := by decide +kernel
theorem dX4_take_24 : decode cX4_take 24 = .ok (.iload_n 2, 1) := by decide +kernel
theorem dX4_take_25 : decode cX4_take 25 = .ok (.iaload, 1) := by decide +kernel
theorem dX4_take_26 : decode cX4_take 26 = .ok (.invokevirtual 24, 3) := by decide +kernel
theorem dX4_take_29 : decode cX4_take 29 = .ok (.return_, 1) := by decide +kernel
theorem dX4_copyFrom_0 : decode cX4_copyFrom 0 = .ok (.iconst 0, 1) := by decide +kernel
theorem dX4_copyFrom_1 : decode cX4_copyFrom 1 = .ok (.istore_n 2, 1) := by decide +kernel
theorem dX4_copyFrom_2 : decode cX4_copyFrom 2 = .ok (.iload_n 2, 1) := by decide +kernel
theorem dX4_copyFrom_3 : decode cX4_copyFrom 3 = .ok (.bipush 16, 2) := by decide +kernel
theorem dX4_copyFrom_5 : decode cX4_copyFrom 5 = .ok (.if_icmp .ge 15, 3) := by decide +kernel
theorem dX4_copyFrom_8 : decode cX4_copyFrom 8 = .ok (.aload_n 0, 1) := by decide +kernel
theorem dX4_copyFrom_9 : decode cX4_copyFrom 9 = .ok (.aload_n 1, 1) := by decide +kernel
theorem dX4_copyFrom_10 : decode cX4_copyFrom 10 = .ok (.iload_n 2, 1) := by decide +kernel
theorem dX4_copyFrom_11 : decode cX4_copyFrom 11 = .ok (.invokevirtual 28, 3) := by decide +kernel
theorem dX4_copyFrom_14 : decode cX4_copyFrom 14 = .ok (.iinc 2 1, 3) := by decide +kernel
theorem dX4_copyFrom_17 : decode cX4_copyFrom 17 = .ok (.goto (-15), 3) := by decide +kernel
theorem dX4_copyFrom_20 : decode cX4_copyFrom 20 = .ok (.return_, 1) := by decide +kernel
theorem dX4_same_0 : decode cX4_same 0 = .ok (.aload_n 0, 1) := by decide +kernel
theorem dX4_same_1 : decode cX4_same 1 = .ok (.getfield 9, 3) := by decide +kernel
theorem dX4_same_4 : decode cX4_same 4 = .ok (.iload_n 2, 1) := by decide +kernel
theorem dX4_same_5 : decode cX4_same 5 = .ok (.iaload, 1) := by decide +kernel
theorem dX4_same_6 : decode cX4_same 6 = .ok (.aload_n 1, 1) := by decide +kernel
theorem dX4_same_7 : decode cX4_same 7 = .ok (.getfield 9, 3) := by decide +kernel
theorem dX4_same_10 : decode cX4_same 10 = .ok (.iload_n 2, 1) := by decide +kernel
theorem dX4_same_11 : decode cX4_same 11 = .ok (.iaload, 1) := by decide +kernel
theorem dX4_same_12 : decode cX4_same 12 = .ok (.if_icmp .ne 52, 3) := by decide +kernel
theorem dX4_same_15 : decode cX4_same 15 = .ok (.aload_n 0, 1) := by decide +kernel
theorem dX4_same_16 : decode cX4_same 16 = .ok (.getfield 15, 3) := by decide +kernel
theorem dX4_same_19 : decode cX4_same 19 = .ok (.iload_n 2, 1) := by decide +kernel
theorem dX4_same_20 : decode cX4_same 20 = .ok (.iaload, 1) := by decide +kernel
theorem dX4_same_21 : decode cX4_same 21 = .ok (.aload_n 1, 1) := by decide +kernel
theorem dX4_same_22 : decode cX4_same 22 = .ok (.getfield 15, 3) := by decide +kernel
theorem dX4_same_25 : decode cX4_same 25 = .ok (.iload_n 2, 1) := by decide +kernel
theorem dX4_same_26 : decode cX4_same 26 = .ok (.iaload, 1) := by decide +kernel
theorem dX4_same_27 : decode cX4_same 27 = .ok (.if_icmp .ne 37, 3) := by decide +kernel
theorem dX4_same_30 : decode cX4_same 30 = .ok (.aload_n 0, 1) := by decide +kernel
theorem dX4_same_31 : decode cX4_same 31 = .ok (.getfield 18, 3) := by decide +kernel
theorem dX4_same_34 : decode cX4_same 34 = .ok (.iload_n 2, 1) := by decide +kernel
theorem dX4_same_35 : decode cX4_same 35 = .ok (.iaload, 1) := by decide +kernel
theorem dX4_same_36 : decode cX4_same 36 = .ok (.aload_n 1, 1) := by decide +kernel
theorem dX4_same_37 : decode cX4_same 37 = .ok (.getfield 18, 3) := by decide +kernel
theorem dX4_same_40 : decode cX4_same 40 = .ok (.iload_n 2, 1) := by decide +kernel
theorem dX4_same_41 : decode cX4_same 41 = .ok (.iaload, 1) := by decide +kernel
theorem dX4_same_42 : decode cX4_same 42 = .ok (.if_icmp .ne 22, 3) := by decide +kernel
theorem dX4_same_45 : decode cX4_same 45 = .ok (.aload_n 0, 1) := by decide +kernel
theorem dX4_same_46 : decode cX4_same 46 = .ok (.getfield 21, 3) := by decide +kernel
theorem dX4_same_49 : decode cX4_same 49 = .ok (.iload_n 2, 1) := by decide +kernel
theorem dX4_same_50 : decode cX4_same 50 = .ok (.iaload, 1) := by decide +kernel
theorem dX4_same_51 : decode cX4_same 51 = .ok (.aload_n 1, 1) := by decide +kernel
theorem dX4_same_52 : decode cX4_same 52 = .ok (.getfield 21, 3) := by decide +kernel
theorem dX4_same_55 : decode cX4_same 55 = .ok (.iload_n 2, 1) := by decide +kernel
theorem dX4_same_56 : decode cX4_same 56 = .ok (.iaload, 1) := by decide +kernel
theorem dX4_same_57 : decode cX4_same 57 = .ok (.if_icmp .ne 7, 3) := by decide +kernel
theorem dX4_same_60 : decode cX4_same 60 = .ok (.iconst 1, 1) := by decide +kernel
theorem dX4_same_61 : decode cX4_same 61 = .ok (.goto 4, 3) := by decide +kernel
theorem dX4_same_64 : decode cX4_same 64 = .ok (.iconst 0, 1) := by decide +kernel
theorem dX4_same_65 : decode cX4_same 65 = .ok (.ireturn, 1) := by decide +kernel
theorem dX4_countOthers_0 : decode cX4_countOthers 0 = .ok (.iconst 0, 1) := by decide +kernel
theorem dX4_countOthers_1 : decode cX4_countOthers 1 = .ok (.istore_n 2, 1) := by decide +kernel
theorem dX4_countOthers_2 : decode cX4_countOthers 2 = .ok (.iconst 0, 1) := by decide +kernel
theorem dX4_countOthers_3 : decode cX4_countOthers 3 = .ok (.istore_n 3, 1) := by decide +kernel
theorem dX4_countOthers_4 : decode cX4_countOthers 4 = .ok (.iload_n 3, 1) := by decide +kernel
theorem dX4_countOthers_5 : decode cX4_countOthers 5 = .ok (.bipush 16, 2) := by decide +kernel
theorem dX4_countOthers_7 : decode cX4_countOthers 7 = .ok (.if_icmp .ge 21, 3) := by decide +kernel
theorem dX4_countOthers_10 : decode cX4_countOthers 10 = .ok (.aload_n 0, 1) := by decide +kernel
theorem dX4_countOthers_11 : decode cX4_countOthers 11 = .ok (.aload_n 1, 1) := by decide +kernel
theorem dX4_countOthers_12 : decode cX4_countOthers 12 = .ok (.iload_n 3, 1) := by decide +kernel
theorem dX4_countOthers_13 : decode cX4_countOthers 13 = .ok (.invokevirtual 32, 3) := by decide +kernel
theorem dX4_countOthers_16 : decode cX4_countOthers 16 = .ok (.ifCond .ne 6, 3) := by decide +kernel
theorem dX4_countOthers_19 : decode cX4_countOthers 19 = .ok (.iinc 2 1, 3) := by decide +kernel
theorem dX4_countOthers_22 : decode cX4_countOthers 22 = .ok (.iinc 3 1, 3) := by decide +kernel
theorem dX4_countOthers_25 : decode cX4_countOthers 25 = .ok (.goto (-21), 3) := by decide +kernel
theorem dX4_countOthers_28 : decode cX4_countOthers 28 = .ok (.iload_n 2, 1) := by decide +kernel
theorem dX4_countOthers_29 : decode cX4_countOthers 29 = .ok (.ireturn, 1) := by decide +kernel
theorem dX4_present_0 : decode cX4_present 0 = .ok (.iconst 0, 1) := by decide +kernel
theorem dX4_present_1 : decode cX4_present 1 = .ok (.istore_n 1, 1) := by decide +kernel
theorem dX4_present_2 : decode cX4_present 2 = .ok (.iconst 0, 1) := by decide +kernel
theorem dX4_present_3 : decode cX4_present 3 = .ok (.istore_n 2, 1) := by decide +kernel
theorem dX4_present_4 : decode cX4_present 4 = .ok (.iload_n 2, 1) := by decide +kernel
theorem dX4_present_5 : decode cX4_present 5 = .ok (.bipush 16, 2) := by decide +kernel
theorem dX4_present_7 : decode cX4_present 7 = .ok (.if_icmp .ge 23, 3) := by decide +kernel
theorem dX4_present_10 : decode cX4_present 10 = .ok (.aload_n 0, 1) := by decide +kernel
theorem dX4_present_11 : decode cX4_present 11 = .ok (.iload_n 2, 1) := by decide +kernel
theorem dX4_present_12 : decode cX4_present 12 = .ok (.invokevirtual 36, 3) := by decide +kernel
theorem dX4_present_15 : decode cX4_present 15 = .ok (.ifCond .eq 9, 3) := by decide +kernel
theorem dX4_present_18 : decode cX4_present 18 = .ok (.iload_n 1, 1) := by decide +kernel
theorem dX4_present_19 : decode cX4_present 19 = .ok (.iconst 1, 1) := by decide +kernel
theorem dX4_present_20 : decode cX4_present 20 = .ok (.iload_n 2, 1) := by decide +kernel
theorem dX4_present_21 : decode cX4_present 21 = .ok (.ishl, 1) := by decide +kernel
theorem dX4_present_22 : decode cX4_present 22 = .ok (.ior, 1) := by decide +kernel
theorem dX4_present_23 : decode cX4_present 23 = .ok (.istore_n 1, 1) := by decide +kernel
theorem dX4_present_24 : decode cX4_present 24 = .ok (.iinc 2 1, 3) := by decide +kernel
theorem dX4_present_27 : decode cX4_present 27 = .ok (.goto (-23), 3) := by decide +kernel
theorem dX4_present_30 : decode cX4_present 30 = .ok (.iload_n 1, 1) := by decide +kernel
theorem dX4_present_31 : decode cX4_present 31 = .ok (.ireturn, 1) := by decide +kernel
theorem dX4_totalCost_0 : decode cX4_totalCost 0 = .ok (.iconst 0, 1) := by decide +kernel
theorem dX4_totalCost_1 : decode cX4_totalCost 1 = .ok (.istore_n 1, 1) := by decide +kernel
theorem dX4_totalCost_2 : decode cX4_totalCost 2 = .ok (.iconst 0, 1) := by decide +kernel
theorem dX4_totalCost_3 : decode cX4_totalCost 3 = .ok (.istore_n 2, 1) := by decide +kernel
theorem dX4_totalCost_4 : decode cX4_totalCost 4 = .ok (.iload_n 2, 1) := by decide +kernel
theorem dX4_totalCost_5 : decode cX4_totalCost 5 = .ok (.bipush 16, 2) := by decide +kernel
theorem dX4_totalCost_7 : decode cX4_totalCost 7 = .ok (.if_icmp .ge 25, 3) := by decide +kernel
theorem dX4_totalCost_10 : decode cX4_totalCost 10 = .ok (.iload_n 1, 1) := by decide +kernel
theorem dX4_totalCost_11 : decode cX4_totalCost 11 = .ok (.aload_n 0, 1) := by decide +kernel
theorem dX4_totalCost_12 : decode cX4_totalCost 12 = .ok (.getfield 9, 3) := by decide +kernel
theorem dX4_totalCost_15 : decode cX4_totalCost 15 = .ok (.iload_n 2, 1) := by decide +kernel
theorem dX4_totalCost_16 : decode cX4_totalCost 16 = .ok (.iaload, 1) := by decide +kernel
theorem dX4_totalCost_17 : decode cX4_totalCost 17 = .ok (.aload_n 0, 1) := by decide +kernel
theorem dX4_totalCost_18 : decode cX4_totalCost 18 = .ok (.getfield 18, 3) := by decide +kernel
theorem dX4_totalCost_21 : decode cX4_totalCost 21 = .ok (.iload_n 2, 1) := by decide +kernel
theorem dX4_totalCost_22 : decode cX4_totalCost 22 = .ok (.iaload, 1) := by decide +kernel
theorem dX4_totalCost_23 : decode cX4_totalCost 23 = .ok (.imul, 1) := by decide +kernel
theorem dX4_totalCost_24 : decode cX4_totalCost 24 = .ok (.iadd, 1) := by decide +kernel
theorem dX4_totalCost_25 : decode cX4_totalCost 25 = .ok (.istore_n 1, 1) := by decide +kernel
theorem dX4_totalCost_26 : decode cX4_totalCost 26 = .ok (.iinc 2 1, 3) := by decide +kernel
theorem dX4_totalCost_29 : decode cX4_totalCost 29 = .ok (.goto (-25), 3) := by decide +kernel
theorem dX4_totalCost_32 : decode cX4_totalCost 32 = .ok (.iload_n 1, 1) := by decide +kernel
theorem dX4_totalCost_33 : decode cX4_totalCost 33 = .ok (.ireturn, 1) := by decide +kernel
theorem dX4_needers_0 : decode cX4_needers 0 = .ok (.iconst 0, 1) := by decide +kernel
theorem dX4_needers_1 : decode cX4_needers 1 = .ok (.istore_n 2, 1) := by decide +kernel
theorem dX4_needers_2 : decode cX4_needers 2 = .ok (.iconst 0, 1) := by decide +kernel
theorem dX4_needers_3 : decode cX4_needers 3 = .ok (.istore_n 3, 1) := by decide +kernel
theorem dX4_needers_4 : decode cX4_needers 4 = .ok (.iload_n 3, 1) := by decide +kernel
theorem dX4_needers_5 : decode cX4_needers 5 = .ok (.bipush 16, 2) := by decide +kernel
theorem dX4_needers_7 : decode cX4_needers 7 = .ok (.if_icmp .ge 28, 3) := by decide +kernel
theorem dX4_needers_10 : decode cX4_needers 10 = .ok (.aload_n 0, 1) := by decide +kernel
theorem dX4_needers_11 : decode cX4_needers 11 = .ok (.getfield 21, 3) := by decide +kernel
theorem dX4_needers_14 : decode cX4_needers 14 = .ok (.iload_n 3, 1) := by decide +kernel
theorem dX4_needers_15 : decode cX4_needers 15 = .ok (.iaload, 1) := by decide +kernel
theorem dX4_needers_16 : decode cX4_needers 16 = .ok (.iload_n 1, 1) := by decide +kernel
theorem dX4_needers_17 : decode cX4_needers 17 = .ok (.invokestatic 40, 3) := by decide +kernel
theorem dX4_needers_20 : decode cX4_needers 20 = .ok (.ifCond .eq 9, 3) := by decide +kernel
theorem dX4_needers_23 : decode cX4_needers 23 = .ok (.iload_n 2, 1) := by decide +kernel
theorem dX4_needers_24 : decode cX4_needers 24 = .ok (.iconst 1, 1) := by decide +kernel
theorem dX4_needers_25 : decode cX4_needers 25 = .ok (.iload_n 3, 1) := by decide +kernel
theorem dX4_needers_26 : decode cX4_needers 26 = .ok (.ishl, 1) := by decide +kernel
theorem dX4_needers_27 : decode cX4_needers 27 = .ok (.ior, 1) := by decide +kernel
theorem dX4_needers_28 : decode cX4_needers 28 = .ok (.istore_n 2, 1) := by decide +kernel
theorem dX4_needers_29 : decode cX4_needers 29 = .ok (.iinc 3 1, 3) := by decide +kernel
theorem dX4_needers_32 : decode cX4_needers 32 = .ok (.goto (-28), 3) := by decide +kernel
theorem dX4_needers_35 : decode cX4_needers 35 = .ok (.iload_n 2, 1) := by decide +kernel
theorem dX4_needers_36 : decode cX4_needers 36 = .ok (.ireturn, 1) := by decide +kernel
theorem dX4_allNeeds_0 : decode cX4_allNeeds 0 = .ok (.aload_n 0, 1) := by decide +kernel
theorem dX4_allNeeds_1 : decode cX4_allNeeds 1 = .ok (.getfield 21, 3) := by decide +kernel
theorem dX4_allNeeds_4 : decode cX4_allNeeds 4 = .ok (.iload_n 1, 1) := by decide +kernel
theorem dX4_allNeeds_5 : decode cX4_allNeeds 5 = .ok (.iaload, 1) := by decide +kernel
theorem dX4_allNeeds_6 : decode cX4_allNeeds 6 = .ok (.istore_n 2, 1) := by decide +kernel
theorem dX4_allNeeds_7 : decode cX4_allNeeds 7 = .ok (.iconst 0, 1) := by decide +kernel
theorem dX4_allNeeds_8 : decode cX4_allNeeds 8 = .ok (.istore_n 3, 1) := by decide +kernel
theorem dX4_allNeeds_9 : decode cX4_allNeeds 9 = .ok (.iload_n 3, 1) := by decide +kernel
theorem dX4_allNeeds_10 : decode cX4_allNeeds 10 = .ok (.bipush 16, 2) := by decide +kernel
theorem dX4_allNeeds_12 : decode cX4_allNeeds 12 = .ok (.if_icmp .ge 60, 3) := by decide +kernel
theorem dX4_allNeeds_15 : decode cX4_allNeeds 15 = .ok (.iload_n 2, 1) := by decide +kernel
theorem dX4_allNeeds_16 : decode cX4_allNeeds 16 = .ok (.istore 4, 2) := by decide +kernel
theorem dX4_allNeeds_18 : decode cX4_allNeeds 18 = .ok (.iconst 0, 1) := by decide +kernel
theorem dX4_allNeeds_19 : decode cX4_allNeeds 19 = .ok (.istore 5, 2) := by decide +kernel
theorem dX4_allNeeds_21 : decode cX4_allNeeds 21 = .ok (.iload 5, 2) := by decide +kernel
theorem dX4_allNeeds_23 : decode cX4_allNeeds 23 = .ok (.bipush 16, 2) := by decide +kernel
theorem dX4_allNeeds_25 : decode cX4_allNeeds 25 = .ok (.if_icmp .ge 30, 3) := by decide +kernel
theorem dX4_allNeeds_28 : decode cX4_allNeeds 28 = .ok (.iload_n 2, 1) := by decide +kernel
theorem dX4_allNeeds_29 : decode cX4_allNeeds 29 = .ok (.iload 5, 2) := by decide +kernel
theorem dX4_allNeeds_31 : decode cX4_allNeeds 31 = .ok (.invokestatic 40, 3) := by decide +kernel
theorem dX4_allNeeds_34 : decode cX4_allNeeds 34 = .ok (.ifCond .eq 15, 3) := by decide +kernel
theorem dX4_allNeeds_37 : decode cX4_allNeeds 37 = .ok (.iload 4, 2) := by decide +kernel
theorem dX4_allNeeds_39 : decode cX4_allNeeds 39 = .ok (.aload_n 0, 1) := by decide +kernel
theorem dX4_allNeeds_40 : decode cX4_allNeeds 40 = .ok (.getfield 21, 3) := by decide +kernel
theorem dX4_allNeeds_43 : decode cX4_allNeeds 43 = .ok (.iload 5, 2) := by decide +kernel
theorem dX4_allNeeds_45 : decode cX4_allNeeds 45 = .ok (.iaload, 1) := by decide +kernel
theorem dX4_allNeeds_46 : decode cX4_allNeeds 46 = .ok (.ior, 1) := by decide +kernel
theorem dX4_allNeeds_47 : decode cX4_allNeeds 47 = .ok (.istore 4, 2) := by decide +kernel
theorem dX4_allNeeds_49 : decode cX4_allNeeds 49 = .ok (.iinc 5 1, 3) := by decide +kernel
theorem dX4_allNeeds_52 : decode cX4_allNeeds 52 = .ok (.goto (-31), 3) := by decide +kernel
theorem dX4_allNeeds_55 : decode cX4_allNeeds 55 = .ok (.iload 4, 2) := by decide +kernel
theorem dX4_allNeeds_57 : decode cX4_allNeeds 57 = .ok (.iload_n 2, 1) := by decide +kernel
theorem dX4_allNeeds_58 : decode cX4_allNeeds 58 = .ok (.if_icmp .ne 5, 3) := by decide +kernel
theorem dX4_allNeeds_61 : decode cX4_allNeeds 61 = .ok (.iload_n 2, 1) := by decide +kernel
theorem dX4_allNeeds_62 : decode cX4_allNeeds 62 = .ok (.ireturn, 1) := by decide +kernel
theorem dX4_allNeeds_63 : decode cX4_allNeeds 63 = .ok (.iload 4, 2) := by decide +kernel
theorem dX4_allNeeds_65 : decode cX4_allNeeds 65 = .ok (.istore_n 2, 1) := by decide +kernel
theorem dX4_allNeeds_66 : decode cX4_allNeeds 66 = .ok (.iinc 3 1, 3) := by decide +kernel
theorem dX4_allNeeds_69 : decode cX4_allNeeds 69 = .ok (.goto (-60), 3) := by decide +kernel
theorem dX4_allNeeds_72 : decode cX4_allNeeds 72 = .ok (.iload_n 2, 1) := by decide +kernel
theorem dX4_allNeeds_73 : decode cX4_allNeeds 73 = .ok (.ireturn, 1) := by decide +kernel
theorem dX4_lacking_0 : decode cX4_lacking 0 = .ok (.aload_n 0, 1) := by decide +kernel
theorem dX4_lacking_1 : decode cX4_lacking 1 = .ok (.invokevirtual 44, 3) := by decide +kernel
theorem dX4_lacking_4 : decode cX4_lacking 4 = .ok (.istore_n 1, 1) := by decide +kernel
theorem dX4_lacking_5 : decode cX4_lacking 5 = .ok (.iconst 0, 1) := by decide +kernel
theorem dX4_lacking_6 : decode cX4_lacking 6 = .ok (.istore_n 2, 1) := by decide +kernel
theorem dX4_lacking_7 : decode cX4_lacking 7 = .ok (.iconst 0, 1) := by decide +kernel
theorem dX4_lacking_8 : decode cX4_lacking 8 = .ok (.istore_n 3, 1) := by decide +kernel
theorem dX4_lacking_9 : decode cX4_lacking 9 = .ok (.iload_n 3, 1) := by decide +kernel
theorem dX4_lacking_10 : decode cX4_lacking 10 = .ok (.bipush 16, 2) := by decide +kernel
theorem dX4_lacking_12 : decode cX4_lacking 12 = .ok (.if_icmp .ge 28, 3) := by decide +kernel
theorem dX4_lacking_15 : decode cX4_lacking 15 = .ok (.aload_n 0, 1) := by decide +kernel
theorem dX4_lacking_16 : decode cX4_lacking 16 = .ok (.getfield 21, 3) := by decide +kernel
theorem dX4_lacking_19 : decode cX4_lacking 19 = .ok (.iload_n 3, 1) := by decide +kernel
theorem dX4_lacking_20 : decode cX4_lacking 20 = .ok (.iaload, 1) := by decide +kernel
theorem dX4_lacking_21 : decode cX4_lacking 21 = .ok (.iload_n 1, 1) := by decide +kernel
theorem dX4_lacking_22 : decode cX4_lacking 22 = .ok (.iconst (-1), 1) := by decide +kernel
theorem dX4_lacking_23 : decode cX4_lacking 23 = .ok (.ixor, 1) := by decide +kernel
theorem dX4_lacking_24 : decode cX4_lacking 24 = .ok (.iand, 1) := by decide +kernel
theorem dX4_lacking_25 : decode cX4_lacking 25 = .ok (.ifCond .eq 9, 3) := by decide +kernel
theorem dX4_lacking_28 : decode cX4_lacking 28 = .ok (.iload_n 2, 1) := by decide +kernel
theorem dX4_lacking_29 : decode cX4_lacking 29 = .ok (.iconst 1, 1) := by decide +kernel
theorem dX4_lacking_30 : decode cX4_lacking 30 = .ok (.iload_n 3, 1) := by decide +kernel
theorem dX4_lacking_31 : decode cX4_lacking 31 = .ok (.ishl, 1) := by decide +kernel
theorem dX4_lacking_32 : decode cX4_lacking 32 = .ok (.ior, 1) := by decide +kernel
theorem dX4_lacking_33 : decode cX4_lacking 33 = .ok (.istore_n 2, 1) := by decide +kernel
theorem dX4_lacking_34 : decode cX4_lacking 34 = .ok (.iinc 3 1, 3) := by decide +kernel
theorem dX4_lacking_37 : decode cX4_lacking 37 = .ok (.goto (-28), 3) := by decide +kernel
theorem dX4_lacking_40 : decode cX4_lacking 40 = .ok (.iload_n 2, 1) := by decide +kernel
theorem dX4_lacking_41 : decode cX4_lacking 41 = .ok (.ireturn, 1) := by decide +kernel
theorem dX4_ringed_0 : decode cX4_ringed 0 = .ok (.iconst 0, 1) := by decide +kernel
theorem dX4_ringed_1 : decode cX4_ringed 1 = .ok (.istore_n 1, 1) := by decide +kernel
theorem dX4_ringed_2 : decode cX4_ringed 2 = .ok (.iconst 0, 1) := by decide +kernel
theorem dX4_ringed_3 : decode cX4_ringed 3 = .ok (.istore_n 2, 1) := by decide +kernel
theorem dX4_ringed_4 : decode cX4_ringed 4 = .ok (.iload_n 2, 1) := by decide +kernel
theorem dX4_ringed_5 : decode cX4_ringed 5 = .ok (.bipush 16, 2) := by decide +kernel
theorem dX4_ringed_7 : decode cX4_ringed 7 = .ok (.if_icmp .ge 27, 3) := by decide +kernel
theorem dX4_ringed_10 : decode cX4_ringed 10 = .ok (.aload_n 0, 1) := by decide +kernel
theorem dX4_ringed_11 : decode cX4_ringed 11 = .ok (.iload_n 2, 1) := by decide +kernel
theorem dX4_ringed_12 : decode cX4_ringed 12 = .ok (.invokevirtual 48, 3) := by decide +kernel
theorem dX4_ringed_15 : decode cX4_ringed 15 = .ok (.iload_n 2, 1) := by decide +kernel
theorem dX4_ringed_16 : decode cX4_ringed 16 = .ok (.invokestatic 40, 3) := by decide +kernel
theorem dX4_ringed_19 : decode cX4_ringed 19 = .ok (.ifCond .eq 9, 3) := by decide +kernel
theorem dX4_ringed_22 : decode cX4_ringed 22 = .ok (.iload_n 1, 1) := by decide +kernel
theorem dX4_ringed_23 : decode cX4_ringed 23 = .ok (.iconst 1, 1) := by decide +kernel
theorem dX4_ringed_24 : decode cX4_ringed 24 = .ok (.iload_n 2, 1) := by decide +kernel
theorem dX4_ringed_25 : decode cX4_ringed 25 = .ok (.ishl, 1) := by decide +kernel
theorem dX4_ringed_26 : decode cX4_ringed 26 = .ok (.ior, 1) := by decide +kernel
theorem dX4_ringed_27 : decode cX4_ringed 27 = .ok (.istore_n 1, 1) := by decide +kernel
theorem dX4_ringed_28 : decode cX4_ringed 28 = .ok (.iinc 2 1, 3) := by decide +kernel
theorem dX4_ringed_31 : decode cX4_ringed 31 = .ok (.goto (-27), 3) := by decide +kernel
theorem dX4_ringed_34 : decode cX4_ringed 34 = .ok (.iload_n 1, 1) := by decide +kernel
theorem dX4_ringed_35 : decode cX4_ringed 35 = .ok (.ireturn, 1) := by decide +kernel
theorem dX7_contains_0 : decode cX7_contains 0 = .ok (.iload_n 0, 1) := by decide +kernel
theorem dX7_contains_1 : decode cX7_contains 1 = .ok (.iload_n 1, 1) := by decide +kernel
theorem dX7_contains_2 : decode cX7_contains 2 = .ok (.ishr, 1) := by decide +kernel
theorem dX7_contains_3 : decode cX7_contains 3 = .ok (.iconst 1, 1) := by decide +kernel
theorem dX7_contains_4 : decode cX7_contains 4 = .ok (.iand, 1) := by decide +kernel
theorem dX7_contains_5 : decode cX7_contains 5 = .ok (.ifCond .eq 7, 3) := by decide +kernel
theorem dX7_contains_8 : decode cX7_contains 8 = .ok (.iconst 1, 1) := by decide +kernel
theorem dX7_contains_9 : decode cX7_contains 9 = .ok (.goto 4, 3) := by decide +kernel
theorem dX7_contains_12 : decode cX7_contains 12 = .ok (.iconst 0, 1) := by decide +kernel
theorem dX7_contains_13 : decode cX7_contains 13 = .ok (.ireturn, 1) := by decide +kernel
theorem dX7_lowest_0 : decode cX7_lowest 0 = .ok (.iconst 0, 1) := by decide +kernel
theorem dX7_lowest_1 : decode cX7_lowest 1 = .ok (.istore_n 1, 1) := by decide +kernel
theorem dX7_lowest_2 : decode cX7_lowest 2 = .ok (.iload_n 1, 1) := by decide +kernel
theorem dX7_lowest_3 : decode cX7_lowest 3 = .ok (.bipush 16, 2) := by decide +kernel
theorem dX7_lowest_5 : decode cX7_lowest 5 = .ok (.if_icmp .ge 19, 3) := by decide +kernel
theorem dX7_lowest_8 : decode cX7_lowest 8 = .ok (.iload_n 0, 1) := by decide +kernel
theorem dX7_lowest_9 : decode cX7_lowest 9 = .ok (.iload_n 1, 1) := by decide +kernel
theorem dX7_lowest_10 : decode cX7_lowest 10 = .ok (.invokestatic 122, 3) := by decide +kernel
theorem dX7_lowest_13 : decode cX7_lowest 13 = .ok (.ifCond .eq 5, 3) := by decide +kernel
theorem dX7_lowest_16 : decode cX7_lowest 16 = .ok (.iload_n 1, 1) := by decide +kernel
theorem dX7_lowest_17 : decode cX7_lowest 17 = .ok (.ireturn, 1) := by decide +kernel
theorem dX7_lowest_18 : decode cX7_lowest 18 = .ok (.iinc 1 1, 3) := by decide +kernel
theorem dX7_lowest_21 : decode cX7_lowest 21 = .ok (.goto (-19), 3) := by decide +kernel
theorem dX7_lowest_24 : decode cX7_lowest 24 = .ok (.iconst (-1), 1) := by decide +kernel
theorem dX7_lowest_25 : decode cX7_lowest 25 = .ok (.ireturn, 1) := by decide +kernel
theorem dX7_checkTask_0 : decode cX7_checkTask 0 = .ok (.iload_n 0, 1) := by decide +kernel
theorem dX7_checkTask_1 : decode cX7_checkTask 1 = .ok (.iconst 0, 1) := by decide +kernel
theorem dX7_checkTask_2 : decode cX7_checkTask 2 = .ok (.bipush 15, 2) := by decide +kernel
theorem dX7_checkTask_4 : decode cX7_checkTask 4 = .ok (.invokestatic 61, 3) := by decide +kernel
theorem dX7_checkTask_7 : decode cX7_checkTask 7 = .ok (.return_, 1) := by decide +kernel
theorem dX7_checkRange_0 : decode cX7_checkRange 0 = .ok (.iload_n 0, 1) := by decide +kernel
theorem dX7_checkRange_1 : decode cX7_checkRange 1 = .ok (.iload_n 1, 1) := by decide +kernel
theorem dX7_checkRange_2 : decode cX7_checkRange 2 = .ok (.if_icmp .lt 8, 3) := by decide +kernel
theorem dX7_checkRange_5 : decode cX7_checkRange 5 = .ok (.iload_n 0, 1) := by decide +kernel
theorem dX7_checkRange_6 : decode cX7_checkRange 6 = .ok (.iload_n 2, 1) := by decide +kernel
theorem dX7_checkRange_7 : decode cX7_checkRange 7 = .ok (.if_icmp .le 14, 3) := by decide +kernel
theorem dX7_checkRange_10 : decode cX7_checkRange 10 = .ok (.new 112, 3) := by decide +kernel
theorem dX7_checkRange_13 : decode cX7_checkRange 13 = .ok (.dup, 1) := by decide +kernel
theorem dX7_checkRange_14 : decode cX7_checkRange 14 = .ok (.ldc_w 272, 3) := by decide +kernel
theorem dX7_checkRange_17 : decode cX7_checkRange 17 = .ok (.invokespecial 116, 3) := by decide +kernel
theorem dX7_checkRange_20 : decode cX7_checkRange 20 = .ok (.athrow, 1) := by decide +kernel
theorem dX7_checkRange_21 : decode cX7_checkRange 21 = .ok (.return_, 1) := by decide +kernel
set_option maxHeartbeats 4000000 in
set_option maxRecDepth 100000 in
theorem c_X7_contains {l : Launch} (hfl : l.stackTraces = false) {sz : Nat} {sk : pb_Sk} {rf : pb_Rf} {sg : pb_Sg} {x : Int32} {t : Nat} (ht : t < 32) : pb_Met l mX7_contains 1 0 0 [.int x, .int (nI t)] sz sk rf sg (pb_is (some (.int (pb_b (pb_in x t)))) sz sk rf sg) := by
  refine pb_start hfl (by decide +kernel) rfl (pb_c1 rfl) (Nat.le_of_ble_eq_true rfl) (fun F hF h hQ => ?_)
  subst hF
  show pv F 0 0 sz sk rf sg 0 [some (.int x), some (.int (nI t))] []
  refine v_iload_n h dX7_contains_0 (q := 1) rfl rfl rfl ?_
  refine v_iload_n h dX7_contains_1 (q := 2) rfl rfl rfl ?_
  refine v_ishr h dX7_contains_2 (q := 3) rfl ?_
  refine v_iconst h (v := nI 1) dX7_contains_3 (q := 4) rfl (by decide +kernel) ?_
  refine v_iand h dX7_contains_4 (q := 5) rfl ?_
  refine v_if_eq h dX7_contains_5 (q := 8) rfl (tgt := 12) (by decide) (fun c1 => ?_) (fun c1 => ?_)
  · skip
    have e13 : pb_b (pb_in x t) = nI 0 := by rw [(pb_in_sh ht).mp c1]; rfl
    refine v_iconst h (v := nI 0) dX7_contains_12 (q := 13) rfl (by decide +kernel) ?_
    refine v_iret h hQ rfl rfl dX7_contains_13 (Nat.zero_le _) (Nat.zero_le _) ⟨by rw [e13], rfl, rfl, rfl, rfl⟩
  · skip
    have e13 : pb_b (pb_in x t) = nI 1 := by rw [pb_ne_f (fun q => c1 ((pb_in_sh ht).mpr q))]; rfl
    refine v_iconst h (v := nI 1) dX7_contains_8 (q := 9) rfl (by decide +kernel) ?_
    refine v_goto h dX7_contains_9 (tgt := 13) (by decide) ?_
    refine v_iret h hQ rfl rfl dX7_contains_13 (Nat.zero_le _) (Nat.zero_le _) ⟨by rw [e13], rfl, rfl, rfl, rfl⟩
set_option maxHeartbeats 4000000 in
set_option maxRecDepth 100000 in
theorem c_X7_checkRange {l : Launch} (hfl : l.stackTraces = false) {sz : Nat} {sk : pb_Sk} {rf : pb_Rf} {sg : pb_Sg} {x lo hi : Int32} (h1 : lo ≤ x) (h2 : x ≤ hi) : pb_Met l mX7_checkRange 1 0 0 [.int x, .int lo, .int hi] sz sk rf sg (pb_is none sz sk rf sg) := by
  refine pb_start hfl (by decide +kernel) rfl (pb_c1 rfl) (Nat.le_of_ble_eq_true rfl) (fun F hF h hQ => ?_)
  subst hF
  show pv F 0 0 sz sk rf sg 0 [some (.int x), some (.int lo), some (.int hi)] []
  refine v_iload_n h dX7_checkRange_0 (q := 1) rfl rfl rfl ?_
  refine v_iload_n h dX7_checkRange_1 (q := 2) rfl rfl rfl ?_
  refine v_icmp_lt h dX7_checkRange_2 (q := 5) rfl (tgt := 10) (by decide) (fun c1 => absurd c1 (Int32.not_lt.mpr h1)) (fun c1 => ?_)
  refine v_iload_n h dX7_checkRange_5 (q := 6) rfl rfl rfl ?_
  refine v_iload_n h dX7_checkRange_6 (q := 7) rfl rfl rfl ?_
  refine v_icmp_le h dX7_checkRange_7 (q := 10) rfl (tgt := 21) (by decide) (fun c2 => ?_) (fun c2 => absurd h2 c2)
  refine v_vret h hQ rfl dX7_checkRange_21 (Nat.zero_le _) (Nat.zero_le _) ⟨rfl, rfl, rfl, rfl, rfl⟩
set_option maxHeartbeats 4000000 in
set_option maxRecDepth 100000 in
theorem x_X7_checkRange {l : Launch} (hfl : l.stackTraces = false) {sz : Nat} {sk : pb_Sk} {rf : pb_Rf} {sg : pb_Sg} {x lo hi : Int32} (h1 : x < lo ∨ hi < x) : pb_Met l mX7_checkRange 6 1 6 [.int x, .int lo, .int hi] sz sk rf sg (pb_thr "java/lang/IllegalArgumentException" sz sk rf sg) := by
  refine pb_start hfl (by decide +kernel) rfl (pb_c1 rfl) (Nat.le_of_ble_eq_true rfl) (fun F hF h hQ => ?_)
  subst hF
  show pv F 0 0 sz sk rf sg 0 [some (.int x), some (.int lo), some (.int hi)] []
  refine v_iload_n h dX7_checkRange_0 (q := 1) rfl rfl rfl ?_
  refine v_iload_n h dX7_checkRange_1 (q := 2) rfl rfl rfl ?_
  refine v_icmp_lt h dX7_checkRange_2 (q := 5) rfl (tgt := 10) (by decide) (fun c1 => ?_) (fun c1 => ?_)
  · skip
    refine v_throwW h hQ rfl (th_X7_112) (is := 272) (text := "an argument is out of range") (by decide +kernel) rfl dX7_checkRange_10 dX7_checkRange_13 dX7_checkRange_14 dX7_checkRange_17 dX7_checkRange_20 (by decide) (by decide) (by decide) (by decide) (fun sz9 hsz9 => ⟨rfl, hsz9, rfl, rfl, rfl⟩)
  · skip
    refine v_iload_n h dX7_checkRange_5 (q := 6) rfl rfl rfl ?_
    refine v_iload_n h dX7_checkRange_6 (q := 7) rfl rfl rfl ?_
    refine v_icmp_le h dX7_checkRange_7 (q := 10) rfl (tgt := 21) (by decide) (fun c2 => absurd (Int32.le_trans c2 (Int32.le_refl _)) (Int32.not_le.mpr (h1.resolve_left c1))) (fun c2 => ?_)
    refine v_throwW h hQ rfl (th_X7_112) (is := 272) (text := "an argument is out of range") (by decide +kernel) rfl dX7_checkRange_10 dX7_checkRange_13 dX7_checkRange_14 dX7_checkRange_17 dX7_checkRange_20 (by decide) (by decide) (by decide) (by decide) (fun sz9 hsz9 => ⟨rfl, hsz9, rfl, rfl, rfl⟩)
set_option maxHeartbeats 4000000 in
set_option maxRecDepth 100000 in
theorem c_X7_checkTask {l : Launch} (hfl : l.stackTraces = false) {sz : Nat} {sk : pb_Sk} {rf : pb_Rf} {sg : pb_Sg} {t : Nat} (ht : t < 16) : pb_Met l mX7_checkTask 2 0 0 [.int (nI t)] sz sk rf sg (pb_is none sz sk rf sg) := by
  refine pb_start hfl (by decide +kernel) rfl (pb_c1 rfl) (Nat.le_of_ble_eq_true rfl) (fun F hF h hQ => ?_)
  subst hF
  show pv F 0 0 sz sk rf sg 0 [some (.int (nI t))] []
  refine v_iload_n h dX7_checkTask_0 (q := 1) rfl rfl rfl ?_
  refine v_iconst h (v := nI 0) dX7_checkTask_1 (q := 2) rfl (by decide +kernel) ?_
  refine v_bipush h (v := nI 15) dX7_checkTask_2 (q := 4) rfl (by decide +kernel) ?_
  refine v_callS0 h (c_X7_checkRange hfl (nI_le (Nat.zero_le t) (by omega)) (nI_le (show t ≤ 15 by omega) (by decide))) kX7_checkRange rfl tw367 rfl rfl (by simp [Value.category]) (by decide) (Nat.zero_le _) (Nat.zero_le _) rfl dX7_checkTask_4 (q := 7) rfl ?_
  refine v_vret h hQ rfl dX7_checkTask_7 (Nat.zero_le _) (Nat.zero_le _) ⟨rfl, rfl, rfl, rfl, rfl⟩
set_option maxHeartbeats 4000000 in
set_option maxRecDepth 100000 in
theorem x_X7_checkTask {l : Launch} (hfl : l.stackTraces = false) {sz : Nat} {sk : pb_Sk} {rf : pb_Rf} {sg : pb_Sg} {x : Int32} (hx : x < nI 0 ∨ nI 15 < x) : pb_Met l mX7_checkTask 7 1 6 [.int x] sz sk rf sg (pb_thr "java/lang/IllegalArgumentException" sz sk rf sg) := by
  refine pb_start hfl (by decide +kernel) rfl (pb_c1 rfl) (Nat.le_of_ble_eq_true rfl) (fun F hF h hQ => ?_)
  subst hF
  show pv F 0 0 sz sk rf sg 0 [some (.int x)] []
  refine v_iload_n h dX7_checkTask_0 (q := 1) rfl rfl rfl ?_
  refine v_iconst h (v := nI 0) dX7_checkTask_1 (q := 2) rfl (by decide +kernel) ?_
  refine v_bipush h (v := nI 15) dX7_checkTask_2 (q := 4) rfl (by decide +kernel) ?_
  refine v_callSx h (x_X7_checkRange hfl hx) kX7_checkRange rfl tw367 rfl rfl (by simp [Value.category]) (by decide) (by decide) (by decide) rfl dX7_checkTask_4 (q := 7) rfl ?_
  intro sz9 hsz9
  exact v_out h hQ rfl (by decide) (by decide) ⟨rfl, hsz9, rfl, rfl, rfl⟩
set_option maxHeartbeats 4000000 in
set_option maxRecDepth 100000 in
theorem c_X4_has {l : Launch} (hfl : l.stackTraces = false) {sz : Nat} {sk : pb_Sk} {rf : pb_Rf} {sg : pb_Sg} {p t : Nat} (hp : pb_plan sk rf p) (ht : t < 16) : pb_Met l mX4_has 1 0 0 [.ref p, .int (nI t)] sz sk rf sg (pb_is (some (.int (pb_b (pb_has (sg (p + 1)) t)))) sz sk rf sg) := by
  refine pb_start hfl (by decide +kernel) rfl (pb_c1 rfl) (Nat.le_of_ble_eq_true rfl) (fun F hF h hQ => ?_)
  subst hF
  show pv F 0 0 sz sk rf sg 0 [some (.ref p), some (.int (nI t))] []
  obtain ⟨hp0, hp1, hp2, hp3, hp4, hp5, hp6, hp7, hp8⟩ := id hp
  refine v_aload_n h dX4_has_0 (q := 1) rfl rfl rfl ?_
  refine v_getr h fl_X4_9 (by assumption) rfl (by assumption) dX4_has_1 (q := 4) rfl ?_
  refine v_iload_n h dX4_has_4 (q := 5) rfl rfl rfl ?_
  refine v_iald h (by assumption) rfl (by first | assumption | omega) (by decide) dX4_has_5 (q := 6) rfl ?_
  refine v_if_le h dX4_has_6 (q := 9) rfl (tgt := 13) (by decide) (fun c1 => ?_) (fun c1 => ?_)
  · skip
    have e14 : pb_b (pb_has (sg (p + 1)) t) = nI 0 := by unfold pb_has; rw [decide_eq_false (Int32.not_lt.mpr c1)]; rfl
    refine v_iconst h (v := nI 0) dX4_has_13 (q := 14) rfl (by decide +kernel) ?_
    refine v_iret h hQ rfl rfl dX4_has_14 (Nat.zero_le _) (Nat.zero_le _) ⟨by rw [e14], rfl, rfl, rfl, rfl⟩
  · skip
    have e14 : pb_b (pb_has (sg (p + 1)) t) = nI 1 := by unfold pb_has; rw [decide_eq_true (Int32.not_le.mp c1)]; rfl
    refine v_iconst h (v := nI 1) dX4_has_9 (q := 10) rfl (by decide +kernel) ?_
    refine v_goto h dX4_has_10 (tgt := 14) (by decide) ?_
    refine v_iret h hQ rfl rfl dX4_has_14 (Nat.zero_le _) (Nat.zero_le _) ⟨by rw [e14], rfl, rfl, rfl, rfl⟩
def pb_put (sg : pb_Sg) (p t : Nat) (a b c e : Int32) : pb_Sg := pb_up (pb_up (pb_up (pb_up sg (p + 1) t a) (p + 2) t b) (p + 3) t c) (p + 4) t e
set_option maxHeartbeats 4000000 in
set_option maxRecDepth 100000 in
theorem c_X4_put {l : Launch} (hfl : l.stackTraces = false) {sz : Nat} {sk : pb_Sk} {rf : pb_Rf} {sg : pb_Sg} {p t : Nat} {a b c e : Int32} (hp : pb_plan sk rf p) (ht : t < 16) : pb_Met l mX4_put 1 0 0 [.ref p, .int (nI t), .int a, .int b, .int c, .int e] sz sk rf sg (pb_is none sz sk rf (pb_put sg p t a b c e)) := by
  refine pb_start hfl (by decide +kernel) rfl (pb_c1 rfl) (Nat.le_of_ble_eq_true rfl) (fun F hF h hQ => ?_)
  subst hF
  show pv F 0 0 sz sk rf sg 0 [some (.ref p), some (.int (nI t)), some (.int a), some (.int b), some (.int c), some (.int e)] []
  obtain ⟨hp0, hp1, hp2, hp3, hp4, hp5, hp6, hp7, hp8⟩ := id hp
  refine v_aload_n h dX4_put_0 (q := 1) rfl rfl rfl ?_
  refine v_getr h fl_X4_9 (by assumption) rfl (by assumption) dX4_put_1 (q := 4) rfl ?_
  refine v_iload_n h dX4_put_4 (q := 5) rfl rfl rfl ?_
  refine v_iload_n h dX4_put_5 (q := 6) rfl rfl rfl ?_
  refine v_iast h (by assumption) rfl (by first | assumption | omega) (by decide) dX4_put_6 (q := 7) rfl ?_
  refine v_aload_n h dX4_put_7 (q := 8) rfl rfl rfl ?_
  refine v_getr h fl_X4_15 (by assumption) rfl (by assumption) dX4_put_8 (q := 11) rfl ?_
  refine v_iload_n h dX4_put_11 (q := 12) rfl rfl rfl ?_
  refine v_iload_n h dX4_put_12 (q := 13) rfl rfl rfl ?_
  refine v_iast h (by assumption) rfl (by first | assumption | omega) (by decide) dX4_put_13 (q := 14) rfl ?_
  refine v_aload_n h dX4_put_14 (q := 15) rfl rfl rfl ?_
  refine v_getr h fl_X4_18 (by assumption) rfl (by assumption) dX4_put_15 (q := 18) rfl ?_
  refine v_iload_n h dX4_put_18 (q := 19) rfl rfl rfl ?_
  refine v_iload h dX4_put_19 (q := 21) rfl rfl ?_
  refine v_iast h (by assumption) rfl (by first | assumption | omega) (by decide) dX4_put_21 (q := 22) rfl ?_
  refine v_aload_n h dX4_put_22 (q := 23) rfl rfl rfl ?_
  refine v_getr h fl_X4_21 (by assumption) rfl (by assumption) dX4_put_23 (q := 26) rfl ?_
  refine v_iload_n h dX4_put_26 (q := 27) rfl rfl rfl ?_
  refine v_iload h dX4_put_27 (q := 29) rfl rfl ?_
  refine v_iast h (by assumption) rfl (by first | assumption | omega) (by decide) dX4_put_29 (q := 30) rfl ?_
  refine v_vret h hQ rfl dX4_put_30 (Nat.zero_le _) (Nat.zero_le _) ⟨rfl, rfl, rfl, rfl, rfl⟩
set_option maxHeartbeats 4000000 in
set_option maxRecDepth 100000 in
theorem c_X4_clear {l : Launch} (hfl : l.stackTraces = false) {sz : Nat} {sk : pb_Sk} {rf : pb_Rf} {sg : pb_Sg} {p t : Nat} (hp : pb_plan sk rf p) (ht : t < 16) : pb_Met l mX4_clear 2 0 0 [.ref p, .int (nI t)] sz sk rf sg (pb_is none sz sk rf (pb_put sg p t (nI 0) (-1) (nI 0) (nI 0))) := by
  refine pb_start hfl (by decide +kernel) rfl (pb_c1 rfl) (Nat.le_of_ble_eq_true rfl) (fun F hF h hQ => ?_)
  subst hF
  show pv F 0 0 sz sk rf sg 0 [some (.ref p), some (.int (nI t))] []
  obtain ⟨hp0, hp1, hp2, hp3, hp4, hp5, hp6, hp7, hp8⟩ := id hp
  refine v_aload_n h dX4_clear_0 (q := 1) rfl rfl rfl ?_
  refine v_iload_n h dX4_clear_1 (q := 2) rfl rfl rfl ?_
  refine v_iconst h (v := nI 0) dX4_clear_2 (q := 3) rfl (by decide +kernel) ?_
  refine v_iconst h (v := (-1)) dX4_clear_3 (q := 4) rfl (by decide +kernel) ?_
  refine v_iconst h (v := nI 0) dX4_clear_4 (q := 5) rfl (by decide +kernel) ?_
  refine v_iconst h (v := nI 0) dX4_clear_5 (q := 6) rfl (by decide +kernel) ?_
  refine v_callV0 h (c_X4_put hfl hp ht) kX4_put tw434 tw396 (by assumption) (by decide) rfl rfl rfl (by simp [Value.category]) (by decide) (Nat.zero_le _) (Nat.zero_le _) rfl dX4_clear_6 (q := 9) rfl ?_
  refine v_vret h hQ rfl dX4_clear_9 (Nat.zero_le _) (Nat.zero_le _) ⟨rfl, rfl, rfl, rfl, rfl⟩
def pb_take (sg : pb_Sg) (p r t : Nat) : pb_Sg := pb_put sg p t (sg (r + 1) t) (sg (r + 2) t) (sg (r + 3) t) (sg (r + 4) t)
set_option maxHeartbeats 4000000 in
set_option maxRecDepth 100000 in
theorem c_X4_take {l : Launch} (hfl : l.stackTraces = false) {sz : Nat} {sk : pb_Sk} {rf : pb_Rf} {sg : pb_Sg} {p r t : Nat} (hp : pb_plan sk rf p) (hr : pb_plan sk rf r) (ht : t < 16) : pb_Met l mX4_take 2 0 0 [.ref p, .ref r, .int (nI t)] sz sk rf sg (pb_is none sz sk rf (pb_take sg p r t)) := by
  refine pb_start hfl (by decide +kernel) rfl (pb_c1 rfl) (Nat.le_of_ble_eq_true rfl) (fun F hF h hQ => ?_)
  subst hF
  show pv F 0 0 sz sk rf sg 0 [some (.ref p), some (.ref r), some (.int (nI t))] []
  obtain ⟨hp0, hp1, hp2, hp3, hp4, hp5, hp6, hp7, hp8⟩ := id hp
  obtain ⟨hr0, hr1, hr2, hr3, hr4, hr5, hr6, hr7, hr8⟩ := id hr
  refine v_aload_n h dX4_take_0 (q := 1) rfl rfl rfl ?_
  refine v_iload_n h dX4_take_1 (q := 2) rfl rfl rfl ?_
  refine v_aload_n h dX4_take_2 (q := 3) rfl rfl rfl ?_
  refine v_getr h fl_X4_9 (by assumption) rfl (by assumption) dX4_take_3 (q := 6) rfl ?_
  refine v_iload_n h dX4_take_6 (q := 7) rfl rfl rfl ?_
  refine v_iald h (by assumption) rfl (by first | assumption | omega) (by decide) dX4_take_7 (q := 8) rfl ?_
  refine v_aload_n h dX4_take_8 (q := 9) rfl rfl rfl ?_
  refine v_getr h fl_X4_15 (by assumption) rfl (by assumption) dX4_take_9 (q := 12) rfl ?_
  refine v_iload_n h dX4_take_12 (q := 13) rfl rfl rfl ?_
  refine v_iald h (by assumption) rfl (by first | assumption | omega) (by decide) dX4_take_13 (q := 14) rfl ?_
  refine v_aload_n h dX4_take_14 (q := 15) rfl rfl rfl ?_
  refine v_getr h fl_X4_18 (by assumption) rfl (by assumption) dX4_take_15 (q := 18) rfl ?_
  refine v_iload_n h dX4_take_18 (q := 19) rfl rfl rfl ?_
  refine v_iald h (by assumption) rfl (by first | assumption | omega) (by decide) dX4_take_19 (q := 20) rfl ?_
  refine v_aload_n h dX4_take_20 (q := 21) rfl rfl rfl ?_
  refine v_getr h fl_X4_21 (by assumption) rfl (by assumption) dX4_take_21 (q := 24) rfl ?_
  refine v_iload_n h dX4_take_24 (q := 25) rfl rfl rfl ?_
  refine v_iald h (by assumption) rfl (by first | assumption | omega) (by decide) dX4_take_25 (q := 26) rfl ?_
  refine v_callV0 h (c_X4_put hfl hp ht) kX4_put tw434 tw396 (by assumption) (by decide) rfl rfl rfl (by simp [Value.category]) (by decide) (Nat.zero_le _) (Nat.zero_le _) rfl dX4_take_26 (q := 29) rfl ?_
  refine v_vret h hQ rfl dX4_take_29 (Nat.zero_le _) (Nat.zero_le _) ⟨rfl, rfl, rfl, rfl, rfl⟩
def pb_wk : List (Option Value) → List (Option Value) → Prop
  | [], [] => True
  | none :: a, _ :: b => pb_wk a b
  | some v :: a, w :: b => w = some v ∧ pb_wk a b
  | _, _ => False
theorem pb_wk_ok : ∀ (L' L : List (Option Value)), pb_wk L' L → L'.length = L.length ∧ ∀ (i : Nat) (v : Value), L'[i]? = some (some v) → L[i]? = some (some v)
  | [], [], _ => ⟨rfl, fun i v h => h⟩
  | [], _ :: _, h => False.elim h
  | _ :: _, [], h => by
    rename_i x y
    cases x <;> exact False.elim h
  | none :: a, w :: b, h => by
    obtain ⟨h1, h2⟩ := pb_wk_ok a b h
    refine ⟨by simp [h1], fun i v hi => ?_⟩
    cases i with
    | zero => simp at hi
    | succ i => simpa using h2 i v (by simpa using hi)
  | some u :: a, w :: b, h => by
    obtain ⟨h0, h⟩ := h
    obtain ⟨h1, h2⟩ := pb_wk_ok a b h
    refine ⟨by simp [h1], fun i v hi => ?_⟩
    cases i with
    | zero => subst h0; simpa using hi
    | succ i => simpa using h2 i v (by simpa using hi)
theorem v_wk {F : pb_F} {cells slots sz : Nat} {sk : pb_Sk} {rf : pb_Rf} {sg : pb_Sg} {pc : Nat} {L : List (Option Value)} {st : List Value} {L' : List (Option Value)} (hw : pb_wk L' L) (kk : pv F cells slots sz sk rf sg pc L' st) : pv F cells slots sz sk rf sg pc L st := v_weak (pb_wk_ok L' L hw).1 (pb_wk_ok L' L hw).2 kk
set_option maxHeartbeats 4000000 in
set_option maxRecDepth 100000 in
theorem c_X4_same {l : Launch} (hfl : l.stackTraces = false) {sz : Nat} {sk : pb_Sk} {rf : pb_Rf} {sg : pb_Sg} {p r t : Nat} (hp : pb_plan sk rf p) (hr : pb_plan sk rf r) (ht : t < 16) : pb_Met l mX4_same 1 0 0 [.ref p, .ref r, .int (nI t)] sz sk rf sg (pb_is (some (.int (pb_b (pb_same sg p r t)))) sz sk rf sg) := by
  refine pb_start hfl (by decide +kernel) rfl (pb_c1 rfl) (Nat.le_of_ble_eq_true rfl) (fun F hF h hQ => ?_)
  subst hF
  show pv F 0 0 sz sk rf sg 0 [some (.ref p), some (.ref r), some (.int (nI t))] []
  obtain ⟨hp0, hp1, hp2, hp3, hp4, hp5, hp6, hp7, hp8⟩ := id hp
  obtain ⟨hr0, hr1, hr2, hr3, hr4, hr5, hr6, hr7, hr8⟩ := id hr
  refine v_aload_n h dX4_same_0 (q := 1) rfl rfl rfl ?_
  refine v_getr h fl_X4_9 (by assumption) rfl (by assumption) dX4_same_1 (q := 4) rfl ?_
  refine v_iload_n h dX4_same_4 (q := 5) rfl rfl rfl ?_
  refine v_iald h (by assumption) rfl (by first | assumption | omega) (by decide) dX4_same_5 (q := 6) rfl ?_
  refine v_aload_n h dX4_same_6 (q := 7) rfl rfl rfl ?_
  refine v_getr h fl_X4_9 (by assumption) rfl (by assumption) dX4_same_7 (q := 10) rfl ?_
  refine v_iload_n h dX4_same_10 (q := 11) rfl rfl rfl ?_
  refine v_iald h (by assumption) rfl (by first | assumption | omega) (by decide) dX4_same_11 (q := 12) rfl ?_
  refine v_icmp_ne h dX4_same_12 (q := 15) rfl (tgt := 64) (by decide) (fun c1 => ?_) (fun c1 => ?_)
  · skip
    have e65 : pb_b (pb_same sg p r t) = nI 0 := by unfold pb_same; rw [decide_eq_false (fun q => c1 q.1)]; rfl
    refine v_iconst h (v := nI 0) dX4_same_64 (q := 65) rfl (by decide +kernel) ?_
    refine v_iret h hQ rfl rfl dX4_same_65 (Nat.zero_le _) (Nat.zero_le _) ⟨by rw [e65], rfl, rfl, rfl, rfl⟩
  · skip
    refine v_aload_n h dX4_same_15 (q := 16) rfl rfl rfl ?_
    refine v_getr h fl_X4_15 (by assumption) rfl (by assumption) dX4_same_16 (q := 19) rfl ?_
    refine v_iload_n h dX4_same_19 (q := 20) rfl rfl rfl ?_
    refine v_iald h (by assumption) rfl (by first | assumption | omega) (by decide) dX4_same_20 (q := 21) rfl ?_
    refine v_aload_n h dX4_same_21 (q := 22) rfl rfl rfl ?_
    refine v_getr h fl_X4_15 (by assumption) rfl (by assumption) dX4_same_22 (q := 25) rfl ?_
    refine v_iload_n h dX4_same_25 (q := 26) rfl rfl rfl ?_
    refine v_iald h (by assumption) rfl (by first | assumption | omega) (by decide) dX4_same_26 (q := 27) rfl ?_
    refine v_icmp_ne h dX4_same_27 (q := 30) rfl (tgt := 64) (by decide) (fun c2 => ?_) (fun c2 => ?_)
    · skip
      have e65 : pb_b (pb_same sg p r t) = nI 0 := by unfold pb_same; rw [decide_eq_false (fun q => c2 q.2.1)]; rfl
      refine v_iconst h (v := nI 0) dX4_same_64 (q := 65) rfl (by decide +kernel) ?_
      refine v_iret h hQ rfl rfl dX4_same_65 (Nat.zero_le _) (Nat.zero_le _) ⟨by rw [e65], rfl, rfl, rfl, rfl⟩
    · skip
      refine v_aload_n h dX4_same_30 (q := 31) rfl rfl rfl ?_
      refine v_getr h fl_X4_18 (by assumption) rfl (by assumption) dX4_same_31 (q := 34) rfl ?_
      refine v_iload_n h dX4_same_34 (q := 35) rfl rfl rfl ?_
      refine v_iald h (by assumption) rfl (by first | assumption | omega) (by decide) dX4_same_35 (q := 36) rfl ?_
      refine v_aload_n h dX4_same_36 (q := 37) rfl rfl rfl ?_
      refine v_getr h fl_X4_18 (by assumption) rfl (by assumption) dX4_same_37 (q := 40) rfl ?_
      refine v_iload_n h dX4_same_40 (q := 41) rfl rfl rfl ?_
      refine v_iald h (by assumption) rfl (by first | assumption | omega) (by decide) dX4_same_41 (q := 42) rfl ?_
      refine v_icmp_ne h dX4_same_42 (q := 45) rfl (tgt := 64) (by decide) (fun c3 => ?_) (fun c3 => ?_)
      · skip
        have e65 : pb_b (pb_same sg p r t) = nI 0 := by unfold pb_same; rw [decide_eq_false (fun q => c3 q.2.2.1)]; rfl
        refine v_iconst h (v := nI 0) dX4_same_64 (q := 65) rfl (by decide +kernel) ?_
        refine v_iret h hQ rfl rfl dX4_same_65 (Nat.zero_le _) (Nat.zero_le _) ⟨by rw [e65], rfl, rfl, rfl, rfl⟩
      · skip
        refine v_aload_n h dX4_same_45 (q := 46) rfl rfl rfl ?_
        refine v_getr h fl_X4_21 (by assumption) rfl (by assumption) dX4_same_46 (q := 49) rfl ?_
        refine v_iload_n h dX4_same_49 (q := 50) rfl rfl rfl ?_
        refine v_iald h (by assumption) rfl (by first | assumption | omega) (by decide) dX4_same_50 (q := 51) rfl ?_
        refine v_aload_n h dX4_same_51 (q := 52) rfl rfl rfl ?_
        refine v_getr h fl_X4_21 (by assumption) rfl (by assumption) dX4_same_52 (q := 55) rfl ?_
        refine v_iload_n h dX4_same_55 (q := 56) rfl rfl rfl ?_
        refine v_iald h (by assumption) rfl (by first | assumption | omega) (by decide) dX4_same_56 (q := 57) rfl ?_
        refine v_icmp_ne h dX4_same_57 (q := 60) rfl (tgt := 64) (by decide) (fun c4 => ?_) (fun c4 => ?_)
        · skip
          have e65 : pb_b (pb_same sg p r t) = nI 0 := by unfold pb_same; rw [decide_eq_false (fun q => c4 q.2.2.2)]; rfl
          refine v_iconst h (v := nI 0) dX4_same_64 (q := 65) rfl (by decide +kernel) ?_
          refine v_iret h hQ rfl rfl dX4_same_65 (Nat.zero_le _) (Nat.zero_le _) ⟨by rw [e65], rfl, rfl, rfl, rfl⟩
        · skip
          have e65 : pb_b (pb_same sg p r t) = nI 1 := by unfold pb_same; rw [decide_eq_true ⟨c1, c2, c3, c4⟩]; rfl
          refine v_iconst h (v := nI 1) dX4_same_60 (q := 61) rfl (by decide +kernel) ?_
          refine v_goto h dX4_same_61 (tgt := 65) (by decide) ?_
          refine v_iret h hQ rfl rfl dX4_same_65 (Nat.zero_le _) (Nat.zero_le _) ⟨by rw [e65], rfl, rfl, rfl, rfl⟩
def pb_copyN (sg : pb_Sg) (p r : Nat) : Nat → pb_Sg
  | 0 => sg
  | n + 1 => pb_take (pb_copyN sg p r n) p r n
set_option maxHeartbeats 4000000 in
set_option maxRecDepth 100000 in
theorem c_X4_copyFrom {l : Launch} (hfl : l.stackTraces = false) {sz : Nat} {sk : pb_Sk} {rf : pb_Rf} {sg : pb_Sg} {p r : Nat} (hp : pb_plan sk rf p) (hr : pb_plan sk rf r) : pb_Met l mX4_copyFrom 3 0 0 [.ref p, .ref r] sz sk rf sg (pb_is none sz sk rf (pb_copyN sg p r 16)) := by
  refine pb_start hfl (by decide +kernel) rfl (pb_c1 rfl) (Nat.le_of_ble_eq_true rfl) (fun F hF h hQ => ?_)
  subst hF
  show pv F 0 0 sz sk rf sg 0 [some (.ref p), some (.ref r), none] []
  obtain ⟨hp0, hp1, hp2, hp3, hp4, hp5, hp6, hp7, hp8⟩ := id hp
  refine v_iconst h (v := nI 0) dX4_copyFrom_0 (q := 1) rfl (by decide +kernel) ?_
  refine v_istore_n h dX4_copyFrom_1 (q := 2) rfl rfl (Nat.le_of_ble_eq_true rfl) rfl ?_
  have lp : ∀ (j i : Nat), i + j = 16 → pv F 0 0 sz sk rf (pb_copyN sg p r i) 2 [some (.ref p), some (.ref r), some (.int (nI i))] [] := by
    intro j
    induction j with
    | zero =>
      intro i  hi
      obtain rfl : i = 16 := by omega
      refine v_iload_n h dX4_copyFrom_2 (q := 3) rfl rfl rfl ?_
      refine v_bipush h (v := nI 16) dX4_copyFrom_3 (q := 5) rfl (by decide +kernel) ?_
      refine v_icmp_ge h dX4_copyFrom_5 (q := 8) rfl (tgt := 20) (by decide) (fun c1 => ?_) (fun c1 => pb_kle (Nat.le_refl _) (by decide) c1)
      refine v_vret h hQ rfl dX4_copyFrom_20 (Nat.zero_le _) (Nat.zero_le _) ⟨rfl, rfl, rfl, rfl, rfl⟩
    | succ j ih =>
      intro i  hi
      have hi2 : i < 16 := by omega
      refine v_iload_n h dX4_copyFrom_2 (q := 3) rfl rfl rfl ?_
      refine v_bipush h (v := nI 16) dX4_copyFrom_3 (q := 5) rfl (by decide +kernel) ?_
      refine v_icmp_ge h dX4_copyFrom_5 (q := 8) rfl (tgt := 20) (by decide) (fun c2 => pb_kge hi2 (by decide) c2) (fun c2 => ?_)
      refine v_aload_n h dX4_copyFrom_8 (q := 9) rfl rfl rfl ?_
      refine v_aload_n h dX4_copyFrom_9 (q := 10) rfl rfl rfl ?_
      refine v_iload_n h dX4_copyFrom_10 (q := 11) rfl rfl rfl ?_
      refine v_callV0 h (c_X4_take hfl hp hr hi2) kX4_take tw519 tw521 (by assumption) (by decide) rfl rfl rfl (by simp [Value.category]) (by decide) (Nat.zero_le _) (Nat.zero_le _) rfl dX4_copyFrom_11 (q := 14) rfl ?_
      refine v_iinc h dX4_copyFrom_14 (q := 17) rfl rfl pb_inc rfl ?_
      refine v_goto h dX4_copyFrom_17 (tgt := 2) (by decide) ?_
      exact ih (i + 1) (by omega)
  exact lp 16 0 (by omega)
set_option maxHeartbeats 4000000 in
set_option maxRecDepth 100000 in
theorem c_X4_present {l : Launch} (hfl : l.stackTraces = false) {sz : Nat} {sk : pb_Sk} {rf : pb_Rf} {sg : pb_Sg} {p : Nat} (hp : pb_plan sk rf p) : pb_Met l mX4_present 2 0 0 [.ref p] sz sk rf sg (pb_is (some (.int (pb_pres (sg (p + 1))))) sz sk rf sg) := by
  refine pb_start hfl (by decide +kernel) rfl (pb_c1 rfl) (Nat.le_of_ble_eq_true rfl) (fun F hF h hQ => ?_)
  subst hF
  show pv F 0 0 sz sk rf sg 0 [some (.ref p), none, none] []
  obtain ⟨hp0, hp1, hp2, hp3, hp4, hp5, hp6, hp7, hp8⟩ := id hp
  refine v_iconst h (v := nI 0) dX4_present_0 (q := 1) rfl (by decide +kernel) ?_
  refine v_istore_n h dX4_present_1 (q := 2) rfl rfl (Nat.le_of_ble_eq_true rfl) rfl ?_
  refine v_iconst h (v := nI 0) dX4_present_2 (q := 3) rfl (by decide +kernel) ?_
  refine v_istore_n h dX4_present_3 (q := 4) rfl rfl (Nat.le_of_ble_eq_true rfl) rfl ?_
  have lp : ∀ (j i : Nat), i + j = 16 → pv F 0 0 sz sk rf sg 4 [some (.ref p), some (.int (pb_set (pb_has (sg (p + 1))) i)), some (.int (nI i))] [] := by
    intro j
    induction j with
    | zero =>
      intro i  hi
      obtain rfl : i = 16 := by omega
      refine v_iload_n h dX4_present_4 (q := 5) rfl rfl rfl ?_
      refine v_bipush h (v := nI 16) dX4_present_5 (q := 7) rfl (by decide +kernel) ?_
      refine v_icmp_ge h dX4_present_7 (q := 10) rfl (tgt := 30) (by decide) (fun c1 => ?_) (fun c1 => pb_kle (Nat.le_refl _) (by decide) c1)
      refine v_iload_n h dX4_present_30 (q := 31) rfl rfl rfl ?_
      refine v_iret h hQ rfl rfl dX4_present_31 (Nat.zero_le _) (Nat.zero_le _) ⟨rfl, rfl, rfl, rfl, rfl⟩
    | succ j ih =>
      intro i  hi
      have hi2 : i < 16 := by omega
      refine v_iload_n h dX4_present_4 (q := 5) rfl rfl rfl ?_
      refine v_bipush h (v := nI 16) dX4_present_5 (q := 7) rfl (by decide +kernel) ?_
      refine v_icmp_ge h dX4_present_7 (q := 10) rfl (tgt := 30) (by decide) (fun c2 => pb_kge hi2 (by decide) c2) (fun c2 => ?_)
      refine v_aload_n h dX4_present_10 (q := 11) rfl rfl rfl ?_
      refine v_iload_n h dX4_present_11 (q := 12) rfl rfl rfl ?_
      refine v_callV1 h (c_X4_has hfl hp hi2) kX4_has tw474 tw388 (by assumption) (by decide) rfl rfl rfl (by simp [Value.category]) (by decide) (Nat.zero_le _) (Nat.zero_le _) rfl dX4_present_12 (q := 15) rfl ?_
      refine v_if_eq h dX4_present_15 (q := 18) rfl (tgt := 24) (by decide) (fun c3 => ?_) (fun c3 => ?_)
      · skip
        have e8 := pb_b_0.mp c3
        have e9 := pb_set_f (c := (pb_has (sg (p + 1)))) e8
        refine v_iinc h dX4_present_24 (q := 27) rfl rfl pb_inc rfl ?_
        refine v_goto h dX4_present_27 (tgt := 4) (by decide) ?_
        have h9 := ih (i + 1) (by omega)
        rw [e9] at h9
        exact h9
      · skip
        have e8 := pb_ne_f (fun q => c3 (pb_b_0.mpr q))
        have e9 := pb_set_t (c := (pb_has (sg (p + 1)))) e8
        refine v_iload_n h dX4_present_18 (q := 19) rfl rfl rfl ?_
        refine v_iconst h (v := nI 1) dX4_present_19 (q := 20) rfl (by decide +kernel) ?_
        refine v_iload_n h dX4_present_20 (q := 21) rfl rfl rfl ?_
        refine v_ishl h dX4_present_21 (q := 22) rfl ?_
        refine v_ior h dX4_present_22 (q := 23) rfl ?_
        refine v_istore_n h dX4_present_23 (q := 24) rfl rfl (Nat.le_of_ble_eq_true rfl) rfl ?_
        refine v_iinc h dX4_present_24 (q := 27) rfl rfl pb_inc rfl ?_
        refine v_goto h dX4_present_27 (tgt := 4) (by decide) ?_
        have h9 := ih (i + 1) (by omega)
        rw [e9] at h9
        exact h9
  exact lp 16 0 (by omega)
def pb_cost (sg : pb_Sg) (p : Nat) : Int32 := pb_sum (fun t => sg (p + 1) t * sg (p + 3) t) 16
set_option maxHeartbeats 4000000 in
set_option maxRecDepth 100000 in
theorem c_X4_totalCost {l : Launch} (hfl : l.stackTraces = false) {sz : Nat} {sk : pb_Sk} {rf : pb_Rf} {sg : pb_Sg} {p : Nat} (hp : pb_plan sk rf p) : pb_Met l mX4_totalCost 1 0 0 [.ref p] sz sk rf sg (pb_is (some (.int (pb_cost sg p))) sz sk rf sg) := by
  refine pb_start hfl (by decide +kernel) rfl (pb_c1 rfl) (Nat.le_of_ble_eq_true rfl) (fun F hF h hQ => ?_)
  subst hF
  show pv F 0 0 sz sk rf sg 0 [some (.ref p), none, none] []
  obtain ⟨hp0, hp1, hp2, hp3, hp4, hp5, hp6, hp7, hp8⟩ := id hp
  refine v_iconst h (v := nI 0) dX4_totalCost_0 (q := 1) rfl (by decide +kernel) ?_
  refine v_istore_n h dX4_totalCost_1 (q := 2) rfl rfl (Nat.le_of_ble_eq_true rfl) rfl ?_
  refine v_iconst h (v := nI 0) dX4_totalCost_2 (q := 3) rfl (by decide +kernel) ?_
  refine v_istore_n h dX4_totalCost_3 (q := 4) rfl rfl (Nat.le_of_ble_eq_true rfl) rfl ?_
  have lp : ∀ (j i : Nat), i + j = 16 → pv F 0 0 sz sk rf sg 4 [some (.ref p), some (.int (pb_sum (fun t => sg (p + 1) t * sg (p + 3) t) i)), some (.int (nI i))] [] := by
    intro j
    induction j with
    | zero =>
      intro i  hi
      obtain rfl : i = 16 := by omega
      refine v_iload_n h dX4_totalCost_4 (q := 5) rfl rfl rfl ?_
      refine v_bipush h (v := nI 16) dX4_totalCost_5 (q := 7) rfl (by decide +kernel) ?_
      refine v_icmp_ge h dX4_totalCost_7 (q := 10) rfl (tgt := 32) (by decide) (fun c1 => ?_) (fun c1 => pb_kle (Nat.le_refl _) (by decide) c1)
      refine v_iload_n h dX4_totalCost_32 (q := 33) rfl rfl rfl ?_
      refine v_iret h hQ rfl rfl dX4_totalCost_33 (Nat.zero_le _) (Nat.zero_le _) ⟨rfl, rfl, rfl, rfl, rfl⟩
    | succ j ih =>
      intro i  hi
      have hi2 : i < 16 := by omega
      refine v_iload_n h dX4_totalCost_4 (q := 5) rfl rfl rfl ?_
      refine v_bipush h (v := nI 16) dX4_totalCost_5 (q := 7) rfl (by decide +kernel) ?_
      refine v_icmp_ge h dX4_totalCost_7 (q := 10) rfl (tgt := 32) (by decide) (fun c2 => pb_kge hi2 (by decide) c2) (fun c2 => ?_)
      refine v_iload_n h dX4_totalCost_10 (q := 11) rfl rfl rfl ?_
      refine v_aload_n h dX4_totalCost_11 (q := 12) rfl rfl rfl ?_
      refine v_getr h fl_X4_9 (by assumption) rfl (by assumption) dX4_totalCost_12 (q := 15) rfl ?_
      refine v_iload_n h dX4_totalCost_15 (q := 16) rfl rfl rfl ?_
      refine v_iald h (by assumption) rfl (by first | assumption | omega) (by decide) dX4_totalCost_16 (q := 17) rfl ?_
      refine v_aload_n h dX4_totalCost_17 (q := 18) rfl rfl rfl ?_
      refine v_getr h fl_X4_18 (by assumption) rfl (by assumption) dX4_totalCost_18 (q := 21) rfl ?_
      refine v_iload_n h dX4_totalCost_21 (q := 22) rfl rfl rfl ?_
      refine v_iald h (by assumption) rfl (by first | assumption | omega) (by decide) dX4_totalCost_22 (q := 23) rfl ?_
      refine v_imul h dX4_totalCost_23 (q := 24) rfl ?_
      refine v_iadd h dX4_totalCost_24 (q := 25) rfl ?_
      refine v_istore_n h dX4_totalCost_25 (q := 26) rfl rfl (Nat.le_of_ble_eq_true rfl) rfl ?_
      refine v_iinc h dX4_totalCost_26 (q := 29) rfl rfl pb_inc rfl ?_
      refine v_goto h dX4_totalCost_29 (tgt := 4) (by decide) ?_
      exact ih (i + 1) (by omega)
  exact lp 16 0 (by omega)
set_option maxHeartbeats 4000000 in
set_option maxRecDepth 100000 in
theorem c_X4_countOthers {l : Launch} (hfl : l.stackTraces = false) {sz : Nat} {sk : pb_Sk} {rf : pb_Rf} {sg : pb_Sg} {p r : Nat} (hp : pb_plan sk rf p) (hr : pb_plan sk rf r) : pb_Met l mX4_countOthers 2 0 0 [.ref p, .ref r] sz sk rf sg (pb_is (some (.int (nI (pb_cnt (fun t => !pb_same sg p r t) 16)))) sz sk rf sg) := by
  refine pb_start hfl (by decide +kernel) rfl (pb_c1 rfl) (Nat.le_of_ble_eq_true rfl) (fun F hF h hQ => ?_)
  subst hF
  show pv F 0 0 sz sk rf sg 0 [some (.ref p), some (.ref r), none, none] []
  obtain ⟨hp0, hp1, hp2, hp3, hp4, hp5, hp6, hp7, hp8⟩ := id hp
  refine v_iconst h (v := nI 0) dX4_countOthers_0 (q := 1) rfl (by decide +kernel) ?_
  refine v_istore_n h dX4_countOthers_1 (q := 2) rfl rfl (Nat.le_of_ble_eq_true rfl) rfl ?_
  refine v_iconst h (v := nI 0) dX4_countOthers_2 (q := 3) rfl (by decide +kernel) ?_
  refine v_istore_n h dX4_countOthers_3 (q := 4) rfl rfl (Nat.le_of_ble_eq_true rfl) rfl ?_
  have lp : ∀ (j i : Nat), i + j = 16 → pv F 0 0 sz sk rf sg 4 [some (.ref p), some (.ref r), some (.int (nI (pb_cnt (fun t => !pb_same sg p r t) i))), some (.int (nI i))] [] := by
    intro j
    induction j with
    | zero =>
      intro i  hi
      obtain rfl : i = 16 := by omega
      refine v_iload_n h dX4_countOthers_4 (q := 5) rfl rfl rfl ?_
      refine v_bipush h (v := nI 16) dX4_countOthers_5 (q := 7) rfl (by decide +kernel) ?_
      refine v_icmp_ge h dX4_countOthers_7 (q := 10) rfl (tgt := 28) (by decide) (fun c1 => ?_) (fun c1 => pb_kle (Nat.le_refl _) (by decide) c1)
      refine v_iload_n h dX4_countOthers_28 (q := 29) rfl rfl rfl ?_
      refine v_iret h hQ rfl rfl dX4_countOthers_29 (Nat.zero_le _) (Nat.zero_le _) ⟨rfl, rfl, rfl, rfl, rfl⟩
    | succ j ih =>
      intro i  hi
      have hi2 : i < 16 := by omega
      refine v_iload_n h dX4_countOthers_4 (q := 5) rfl rfl rfl ?_
      refine v_bipush h (v := nI 16) dX4_countOthers_5 (q := 7) rfl (by decide +kernel) ?_
      refine v_icmp_ge h dX4_countOthers_7 (q := 10) rfl (tgt := 28) (by decide) (fun c2 => pb_kge hi2 (by decide) c2) (fun c2 => ?_)
      refine v_aload_n h dX4_countOthers_10 (q := 11) rfl rfl rfl ?_
      refine v_aload_n h dX4_countOthers_11 (q := 12) rfl rfl rfl ?_
      refine v_iload_n h dX4_countOthers_12 (q := 13) rfl rfl rfl ?_
      refine v_callV1 h (c_X4_same hfl hp hr hi2) kX4_same tw685 tw566 (by assumption) (by decide) rfl rfl rfl (by simp [Value.category]) (by decide) (Nat.zero_le _) (Nat.zero_le _) rfl dX4_countOthers_13 (q := 16) rfl ?_
      refine v_if_ne h dX4_countOthers_16 (q := 19) rfl (tgt := 22) (by decide) (fun c3 => ?_) (fun c3 => ?_)
      · skip
        have e8 := pb_ne_f (fun q => c3 (pb_b_0.mpr q))
        have e9 : pb_cnt (fun t => !pb_same sg p r t) (i + 1) = pb_cnt (fun t => !pb_same sg p r t) i := if_neg (by simp [e8])
        refine v_iinc h dX4_countOthers_22 (q := 25) rfl rfl pb_inc rfl ?_
        refine v_goto h dX4_countOthers_25 (tgt := 4) (by decide) ?_
        have h9 := ih (i + 1) (by omega)
        rw [e9] at h9
        exact h9
      · skip
        have e8 := pb_b_0.mp c3
        have e9 : pb_cnt (fun t => !pb_same sg p r t) (i + 1) = pb_cnt (fun t => !pb_same sg p r t) i + 1 := if_pos (by simp [e8])
        refine v_iinc h dX4_countOthers_19 (q := 22) rfl rfl pb_inc rfl ?_
        refine v_iinc h dX4_countOthers_22 (q := 25) rfl rfl pb_inc rfl ?_
        refine v_goto h dX4_countOthers_25 (tgt := 4) (by decide) ?_
        have h9 := ih (i + 1) (by omega)
        rw [e9] at h9
        exact h9
  exact lp 16 0 (by omega)
set_option maxHeartbeats 4000000 in
set_option maxRecDepth 100000 in
theorem c_X4_needers {l : Launch} (hfl : l.stackTraces = false) {sz : Nat} {sk : pb_Sk} {rf : pb_Rf} {sg : pb_Sg} {p t : Nat} (hp : pb_plan sk rf p) (ht : t < 16) : pb_Met l mX4_needers 2 0 0 [.ref p, .int (nI t)] sz sk rf sg (pb_is (some (.int (pb_set (fun o => pb_in (sg (p + 4) o) t) 16))) sz sk rf sg) := by
  refine pb_start hfl (by decide +kernel) rfl (pb_c1 rfl) (Nat.le_of_ble_eq_true rfl) (fun F hF h hQ => ?_)
  subst hF
  show pv F 0 0 sz sk rf sg 0 [some (.ref p), some (.int (nI t)), none, none] []
  obtain ⟨hp0, hp1, hp2, hp3, hp4, hp5, hp6, hp7, hp8⟩ := id hp
  refine v_iconst h (v := nI 0) dX4_needers_0 (q := 1) rfl (by decide +kernel) ?_
  refine v_istore_n h dX4_needers_1 (q := 2) rfl rfl (Nat.le_of_ble_eq_true rfl) rfl ?_
  refine v_iconst h (v := nI 0) dX4_needers_2 (q := 3) rfl (by decide +kernel) ?_
  refine v_istore_n h dX4_needers_3 (q := 4) rfl rfl (Nat.le_of_ble_eq_true rfl) rfl ?_
  have lp : ∀ (j i : Nat), i + j = 16 → pv F 0 0 sz sk rf sg 4 [some (.ref p), some (.int (nI t)), some (.int (pb_set (fun o => pb_in (sg (p + 4) o) t) i)), some (.int (nI i))] [] := by
    intro j
    induction j with
    | zero =>
      intro i  hi
      obtain rfl : i = 16 := by omega
      refine v_iload_n h dX4_needers_4 (q := 5) rfl rfl rfl ?_
      refine v_bipush h (v := nI 16) dX4_needers_5 (q := 7) rfl (by decide +kernel) ?_
      refine v_icmp_ge h dX4_needers_7 (q := 10) rfl (tgt := 35) (by decide) (fun c1 => ?_) (fun c1 => pb_kle (Nat.le_refl _) (by decide) c1)
      refine v_iload_n h dX4_needers_35 (q := 36) rfl rfl rfl ?_
      refine v_iret h hQ rfl rfl dX4_needers_36 (Nat.zero_le _) (Nat.zero_le _) ⟨rfl, rfl, rfl, rfl, rfl⟩
    | succ j ih =>
      intro i  hi
      have hi2 : i < 16 := by omega
      refine v_iload_n h dX4_needers_4 (q := 5) rfl rfl rfl ?_
      refine v_bipush h (v := nI 16) dX4_needers_5 (q := 7) rfl (by decide +kernel) ?_
      refine v_icmp_ge h dX4_needers_7 (q := 10) rfl (tgt := 35) (by decide) (fun c2 => pb_kge hi2 (by decide) c2) (fun c2 => ?_)
      refine v_aload_n h dX4_needers_10 (q := 11) rfl rfl rfl ?_
      refine v_getr h fl_X4_21 (by assumption) rfl (by assumption) dX4_needers_11 (q := 14) rfl ?_
      refine v_iload_n h dX4_needers_14 (q := 15) rfl rfl rfl ?_
      refine v_iald h (by assumption) rfl (by first | assumption | omega) (by decide) dX4_needers_15 (q := 16) rfl ?_
      refine v_iload_n h dX4_needers_16 (q := 17) rfl rfl rfl ?_
      refine v_callSN1 h (c_X7_contains hfl (show t < 32 by omega)) kX7_contains rfl tw426 rfl rfl (by simp [Value.category]) (by decide) (Nat.zero_le _) (Nat.zero_le _) rfl dX4_needers_17 (q := 20) rfl ?_
      refine v_if_eq h dX4_needers_20 (q := 23) rfl (tgt := 29) (by decide) (fun c3 => ?_) (fun c3 => ?_)
      · skip
        have e8 := pb_b_0.mp c3
        have e9 := pb_set_f (c := (fun o => pb_in (sg (p + 4) o) t)) e8
        refine v_iinc h dX4_needers_29 (q := 32) rfl rfl pb_inc rfl ?_
        refine v_goto h dX4_needers_32 (tgt := 4) (by decide) ?_
        have h9 := ih (i + 1) (by omega)
        rw [e9] at h9
        exact h9
      · skip
        have e8 := pb_ne_f (fun q => c3 (pb_b_0.mpr q))
        have e9 := pb_set_t (c := (fun o => pb_in (sg (p + 4) o) t)) e8
        refine v_iload_n h dX4_needers_23 (q := 24) rfl rfl rfl ?_
        refine v_iconst h (v := nI 1) dX4_needers_24 (q := 25) rfl (by decide +kernel) ?_
        refine v_iload_n h dX4_needers_25 (q := 26) rfl rfl rfl ?_
        refine v_ishl h dX4_needers_26 (q := 27) rfl ?_
        refine v_ior h dX4_needers_27 (q := 28) rfl ?_
        refine v_istore_n h dX4_needers_28 (q := 29) rfl rfl (Nat.le_of_ble_eq_true rfl) rfl ?_
        refine v_iinc h dX4_needers_29 (q := 32) rfl rfl pb_inc rfl ?_
        refine v_goto h dX4_needers_32 (tgt := 4) (by decide) ?_
        have h9 := ih (i + 1) (by omega)
        rw [e9] at h9
        exact h9
  exact lp 16 0 (by omega)
def pb_all (f : Nat → Int32) (t : Nat) : Int32 := pb_it f 16 (f t)
set_option maxHeartbeats 4000000 in
set_option maxRecDepth 100000 in
theorem c_X4_allNeeds {l : Launch} (hfl : l.stackTraces = false) {sz : Nat} {sk : pb_Sk} {rf : pb_Rf} {sg : pb_Sg} {p t : Nat} (hp : pb_plan sk rf p) (ht : t < 16) : pb_Met l mX4_allNeeds 2 0 0 [.ref p, .int (nI t)] sz sk rf sg (pb_is (some (.int (pb_all (sg (p + 4)) t))) sz sk rf sg) := by
  refine pb_start hfl (by decide +kernel) rfl (pb_c1 rfl) (Nat.le_of_ble_eq_true rfl) (fun F hF h hQ => ?_)
  subst hF
  show pv F 0 0 sz sk rf sg 0 [some (.ref p), some (.int (nI t)), none, none, none, none] []
  obtain ⟨hp0, hp1, hp2, hp3, hp4, hp5, hp6, hp7, hp8⟩ := id hp
  refine v_aload_n h dX4_allNeeds_0 (q := 1) rfl rfl rfl ?_
  refine v_getr h fl_X4_21 (by assumption) rfl (by assumption) dX4_allNeeds_1 (q := 4) rfl ?_
  refine v_iload_n h dX4_allNeeds_4 (q := 5) rfl rfl rfl ?_
  refine v_iald h (by assumption) rfl (by first | assumption | omega) (by decide) dX4_allNeeds_5 (q := 6) rfl ?_
  refine v_istore_n h dX4_allNeeds_6 (q := 7) rfl rfl (Nat.le_of_ble_eq_true rfl) rfl ?_
  refine v_iconst h (v := nI 0) dX4_allNeeds_7 (q := 8) rfl (by decide +kernel) ?_
  refine v_istore_n h dX4_allNeeds_8 (q := 9) rfl rfl (Nat.le_of_ble_eq_true rfl) rfl ?_
  have lp : ∀ (j i : Nat) (S : Int32), i + j = 16 → pb_it (sg (p + 4)) j S = pb_all (sg (p + 4)) t → pv F 0 0 sz sk rf sg 9 [some (.ref p), some (.int (nI t)), some (.int S), some (.int (nI i)), none, none] [] := by
    intro j
    induction j with
    | zero =>
      intro i S hi hy0
      obtain rfl : i = 16 := by omega
      refine v_iload_n h dX4_allNeeds_9 (q := 10) rfl rfl rfl ?_
      refine v_bipush h (v := nI 16) dX4_allNeeds_10 (q := 12) rfl (by decide +kernel) ?_
      refine v_icmp_ge h dX4_allNeeds_12 (q := 15) rfl (tgt := 72) (by decide) (fun c1 => ?_) (fun c1 => pb_kle (Nat.le_refl _) (by decide) c1)
      refine v_iload_n h dX4_allNeeds_72 (q := 73) rfl rfl rfl ?_
      refine v_iret h hQ rfl rfl dX4_allNeeds_73 (Nat.zero_le _) (Nat.zero_le _) ⟨by rw [← hy0]; rfl, rfl, rfl, rfl, rfl⟩
    | succ j ih =>
      intro i S hi hy0
      have hi2 : i < 16 := by omega
      refine v_iload_n h dX4_allNeeds_9 (q := 10) rfl rfl rfl ?_
      refine v_bipush h (v := nI 16) dX4_allNeeds_10 (q := 12) rfl (by decide +kernel) ?_
      refine v_icmp_ge h dX4_allNeeds_12 (q := 15) rfl (tgt := 72) (by decide) (fun c2 => pb_kge hi2 (by decide) c2) (fun c2 => ?_)
      refine v_iload_n h dX4_allNeeds_15 (q := 16) rfl rfl rfl ?_
      refine v_istore h dX4_allNeeds_16 (q := 18) rfl (Nat.le_of_ble_eq_true rfl) rfl ?_
      refine v_iconst h (v := nI 0) dX4_allNeeds_18 (q := 19) rfl (by decide +kernel) ?_
      refine v_istore h dX4_allNeeds_19 (q := 21) rfl (Nat.le_of_ble_eq_true rfl) rfl ?_
      have lpb : ∀ (jb ib : Nat), ib + jb = 16 → pv F 0 0 sz sk rf sg 21 [some (.ref p), some (.int (nI t)), some (.int S), some (.int (nI i)), some (.int (pb_orN (sg (p + 4)) S S ib)), some (.int (nI ib))] [] := by
        intro jb
        induction jb with
        | zero =>
          intro ib  hib
          obtain rfl : ib = 16 := by omega
          refine v_iload h dX4_allNeeds_21 (q := 23) rfl rfl ?_
          refine v_bipush h (v := nI 16) dX4_allNeeds_23 (q := 25) rfl (by decide +kernel) ?_
          refine v_icmp_ge h dX4_allNeeds_25 (q := 28) rfl (tgt := 55) (by decide) (fun c3 => ?_) (fun c3 => pb_kle (Nat.le_refl _) (by decide) c3)
          refine v_iload h dX4_allNeeds_55 (q := 57) rfl rfl ?_
          refine v_iload_n h dX4_allNeeds_57 (q := 58) rfl rfl rfl ?_
          refine v_icmp_ne h dX4_allNeeds_58 (q := 61) rfl (tgt := 63) (by decide) (fun c4 => ?_) (fun c4 => ?_)
          · skip
            have h9 := ih (i + 1) (pb_orN (sg (p + 4)) S S 16) (by omega) hy0
            refine v_iload h dX4_allNeeds_63 (q := 65) rfl rfl ?_
            refine v_istore_n h dX4_allNeeds_65 (q := 66) rfl rfl (Nat.le_of_ble_eq_true rfl) rfl ?_
            refine v_iinc h dX4_allNeeds_66 (q := 69) rfl rfl pb_inc rfl ?_
            refine v_goto h dX4_allNeeds_69 (tgt := 9) (by decide) ?_
            refine v_wk (by simp [pb_wk]) h9
          · skip
            have e9 : pb_all (sg (p + 4)) t = S := by rw [← hy0]; show pb_it _ j (pb_orN _ S S 16) = S; rw [c4]; exact pb_it_fix c4 j
            refine v_iload_n h dX4_allNeeds_61 (q := 62) rfl rfl rfl ?_
            refine v_iret h hQ rfl rfl dX4_allNeeds_62 (Nat.zero_le _) (Nat.zero_le _) ⟨by rw [e9], rfl, rfl, rfl, rfl⟩
        | succ jb ihb =>
          intro ib  hib
          have hi2b : ib < 16 := by omega
          refine v_iload h dX4_allNeeds_21 (q := 23) rfl rfl ?_
          refine v_bipush h (v := nI 16) dX4_allNeeds_23 (q := 25) rfl (by decide +kernel) ?_
          refine v_icmp_ge h dX4_allNeeds_25 (q := 28) rfl (tgt := 55) (by decide) (fun c5 => pb_kge hi2b (by decide) c5) (fun c5 => ?_)
          refine v_iload_n h dX4_allNeeds_28 (q := 29) rfl rfl rfl ?_
          refine v_iload h dX4_allNeeds_29 (q := 31) rfl rfl ?_
          refine v_callSN1 h (c_X7_contains hfl (show ib < 32 by omega)) kX7_contains rfl tw426 rfl rfl (by simp [Value.category]) (by decide) (Nat.zero_le _) (Nat.zero_le _) rfl dX4_allNeeds_31 (q := 34) rfl ?_
          refine v_if_eq h dX4_allNeeds_34 (q := 37) rfl (tgt := 49) (by decide) (fun c6 => ?_) (fun c6 => ?_)
          · skip
            have e8 := pb_b_0.mp c6
            have e9 := pb_orN_f (f := sg (p + 4)) (s := S) e8
            refine v_iinc h dX4_allNeeds_49 (q := 52) rfl rfl pb_inc rfl ?_
            refine v_goto h dX4_allNeeds_52 (tgt := 21) (by decide) ?_
            have h9 := ihb (ib + 1) (by omega)
            rw [e9] at h9
            exact h9
          · skip
            have e8 := pb_ne_f (fun q => c6 (pb_b_0.mpr q))
            have e9 := pb_orN_t (f := sg (p + 4)) (s := S) e8
            refine v_iload h dX4_allNeeds_37 (q := 39) rfl rfl ?_
            refine v_aload_n h dX4_allNeeds_39 (q := 40) rfl rfl rfl ?_
            refine v_getr h fl_X4_21 (by assumption) rfl (by assumption) dX4_allNeeds_40 (q := 43) rfl ?_
            refine v_iload h dX4_allNeeds_43 (q := 45) rfl rfl ?_
            refine v_iald h (by assumption) rfl (by first | assumption | omega) (by decide) dX4_allNeeds_45 (q := 46) rfl ?_
            refine v_ior h dX4_allNeeds_46 (q := 47) rfl ?_
            refine v_istore h dX4_allNeeds_47 (q := 49) rfl (Nat.le_of_ble_eq_true rfl) rfl ?_
            refine v_iinc h dX4_allNeeds_49 (q := 52) rfl rfl pb_inc rfl ?_
            refine v_goto h dX4_allNeeds_52 (tgt := 21) (by decide) ?_
            have h9 := ihb (ib + 1) (by omega)
            rw [e9] at h9
            exact h9
      exact lpb 16 0 (by omega)
  exact lp 16 0 _ (by omega) rfl
def pb_lackc (sg : pb_Sg) (p t : Nat) : Bool := !decide ((sg (p + 4) t &&& (pb_pres (sg (p + 1)) ^^^ (-1))) = 0)
set_option maxHeartbeats 4000000 in
set_option maxRecDepth 100000 in
theorem c_X4_lacking {l : Launch} (hfl : l.stackTraces = false) {sz : Nat} {sk : pb_Sk} {rf : pb_Rf} {sg : pb_Sg} {p : Nat} (hp : pb_plan sk rf p) : pb_Met l mX4_lacking 3 0 0 [.ref p] sz sk rf sg (pb_is (some (.int (pb_set (pb_lackc sg p) 16))) sz sk rf sg) := by
  refine pb_start hfl (by decide +kernel) rfl (pb_c1 rfl) (Nat.le_of_ble_eq_true rfl) (fun F hF h hQ => ?_)
  subst hF
  show pv F 0 0 sz sk rf sg 0 [some (.ref p), none, none, none] []
  obtain ⟨hp0, hp1, hp2, hp3, hp4, hp5, hp6, hp7, hp8⟩ := id hp
  refine v_aload_n h dX4_lacking_0 (q := 1) rfl rfl rfl ?_
  refine v_callV1 h (c_X4_present hfl hp) kX4_present tw599 tw472 (by assumption) (by decide) rfl rfl rfl (by simp [Value.category]) (by decide) (Nat.zero_le _) (Nat.zero_le _) rfl dX4_lacking_1 (q := 4) rfl ?_
  refine v_istore_n h dX4_lacking_4 (q := 5) rfl rfl (Nat.le_of_ble_eq_true rfl) rfl ?_
  refine v_iconst h (v := nI 0) dX4_lacking_5 (q := 6) rfl (by decide +kernel) ?_
  refine v_istore_n h dX4_lacking_6 (q := 7) rfl rfl (Nat.le_of_ble_eq_true rfl) rfl ?_
  refine v_iconst h (v := nI 0) dX4_lacking_7 (q := 8) rfl (by decide +kernel) ?_
  refine v_istore_n h dX4_lacking_8 (q := 9) rfl rfl (Nat.le_of_ble_eq_true rfl) rfl ?_
  have lp : ∀ (j i : Nat), i + j = 16 → pv F 0 0 sz sk rf sg 9 [some (.ref p), some (.int (pb_pres (sg (p + 1)))), some (.int (pb_set (pb_lackc sg p) i)), some (.int (nI i))] [] := by
    intro j
    induction j with
    | zero =>
      intro i  hi
      obtain rfl : i = 16 := by omega
      refine v_iload_n h dX4_lacking_9 (q := 10) rfl rfl rfl ?_
      refine v_bipush h (v := nI 16) dX4_lacking_10 (q := 12) rfl (by decide +kernel) ?_
      refine v_icmp_ge h dX4_lacking_12 (q := 15) rfl (tgt := 40) (by decide) (fun c1 => ?_) (fun c1 => pb_kle (Nat.le_refl _) (by decide) c1)
      refine v_iload_n h dX4_lacking_40 (q := 41) rfl rfl rfl ?_
      refine v_iret h hQ rfl rfl dX4_lacking_41 (Nat.zero_le _) (Nat.zero_le _) ⟨rfl, rfl, rfl, rfl, rfl⟩
    | succ j ih =>
      intro i  hi
      have hi2 : i < 16 := by omega
      refine v_iload_n h dX4_lacking_9 (q := 10) rfl rfl rfl ?_
      refine v_bipush h (v := nI 16) dX4_lacking_10 (q := 12) rfl (by decide +kernel) ?_
      refine v_icmp_ge h dX4_lacking_12 (q := 15) rfl (tgt := 40) (by decide) (fun c2 => pb_kge hi2 (by decide) c2) (fun c2 => ?_)
      refine v_aload_n h dX4_lacking_15 (q := 16) rfl rfl rfl ?_
      refine v_getr h fl_X4_21 (by assumption) rfl (by assumption) dX4_lacking_16 (q := 19) rfl ?_
      refine v_iload_n h dX4_lacking_19 (q := 20) rfl rfl rfl ?_
      refine v_iald h (by assumption) rfl (by first | assumption | omega) (by decide) dX4_lacking_20 (q := 21) rfl ?_
      refine v_iload_n h dX4_lacking_21 (q := 22) rfl rfl rfl ?_
      refine v_iconst h (v := (-1)) dX4_lacking_22 (q := 23) rfl (by decide +kernel) ?_
      refine v_ixor h dX4_lacking_23 (q := 24) rfl ?_
      refine v_iand h dX4_lacking_24 (q := 25) rfl ?_
      refine v_if_eq h dX4_lacking_25 (q := 28) rfl (tgt := 34) (by decide) (fun c3 => ?_) (fun c3 => ?_)
      · skip
        have e9 := pb_set_f (c := (pb_lackc sg p)) (n := i) (by unfold pb_lackc; rw [decide_eq_true c3]; rfl)
        refine v_iinc h dX4_lacking_34 (q := 37) rfl rfl pb_inc rfl ?_
        refine v_goto h dX4_lacking_37 (tgt := 9) (by decide) ?_
        have h9 := ih (i + 1) (by omega)
        rw [e9] at h9
        exact h9
      · skip
        have e9 := pb_set_t (c := (pb_lackc sg p)) (n := i) (by unfold pb_lackc; rw [decide_eq_false c3]; rfl)
        refine v_iload_n h dX4_lacking_28 (q := 29) rfl rfl rfl ?_
        refine v_iconst h (v := nI 1) dX4_lacking_29 (q := 30) rfl (by decide +kernel) ?_
        refine v_iload_n h dX4_lacking_30 (q := 31) rfl rfl rfl ?_
        refine v_ishl h dX4_lacking_31 (q := 32) rfl ?_
        refine v_ior h dX4_lacking_32 (q := 33) rfl ?_
        refine v_istore_n h dX4_lacking_33 (q := 34) rfl rfl (Nat.le_of_ble_eq_true rfl) rfl ?_
        refine v_iinc h dX4_lacking_34 (q := 37) rfl rfl pb_inc rfl ?_
        refine v_goto h dX4_lacking_37 (tgt := 9) (by decide) ?_
        have h9 := ih (i + 1) (by omega)
        rw [e9] at h9
        exact h9
  exact lp 16 0 (by omega)
set_option maxHeartbeats 4000000 in
set_option maxRecDepth 100000 in
theorem c_X4_ringed {l : Launch} (hfl : l.stackTraces = false) {sz : Nat} {sk : pb_Sk} {rf : pb_Rf} {sg : pb_Sg} {p : Nat} (hp : pb_plan sk rf p) : pb_Met l mX4_ringed 3 0 0 [.ref p] sz sk rf sg (pb_is (some (.int (pb_set (fun t => pb_in (pb_all (sg (p + 4)) t) t) 16))) sz sk rf sg) := by
  refine pb_start hfl (by decide +kernel) rfl (pb_c1 rfl) (Nat.le_of_ble_eq_true rfl) (fun F hF h hQ => ?_)
  subst hF
  show pv F 0 0 sz sk rf sg 0 [some (.ref p), none, none] []
  obtain ⟨hp0, hp1, hp2, hp3, hp4, hp5, hp6, hp7, hp8⟩ := id hp
  refine v_iconst h (v := nI 0) dX4_ringed_0 (q := 1) rfl (by decide +kernel) ?_
  refine v_istore_n h dX4_ringed_1 (q := 2) rfl rfl (Nat.le_of_ble_eq_true rfl) rfl ?_
  refine v_iconst h (v := nI 0) dX4_ringed_2 (q := 3) rfl (by decide +kernel) ?_
  refine v_istore_n h dX4_ringed_3 (q := 4) rfl rfl (Nat.le_of_ble_eq_true rfl) rfl ?_
  have lp : ∀ (j i : Nat), i + j = 16 → pv F 0 0 sz sk rf sg 4 [some (.ref p), some (.int (pb_set (fun t => pb_in (pb_all (sg (p + 4)) t) t) i)), some (.int (nI i))] [] := by
    intro j
    induction j with
    | zero =>
      intro i  hi
      obtain rfl : i = 16 := by omega
      refine v_iload_n h dX4_ringed_4 (q := 5) rfl rfl rfl ?_
      refine v_bipush h (v := nI 16) dX4_ringed_5 (q := 7) rfl (by decide +kernel) ?_
      refine v_icmp_ge h dX4_ringed_7 (q := 10) rfl (tgt := 34) (by decide) (fun c1 => ?_) (fun c1 => pb_kle (Nat.le_refl _) (by decide) c1)
      refine v_iload_n h dX4_ringed_34 (q := 35) rfl rfl rfl ?_
      refine v_iret h hQ rfl rfl dX4_ringed_35 (Nat.zero_le _) (Nat.zero_le _) ⟨rfl, rfl, rfl, rfl, rfl⟩
    | succ j ih =>
      intro i  hi
      have hi2 : i < 16 := by omega
      refine v_iload_n h dX4_ringed_4 (q := 5) rfl rfl rfl ?_
      refine v_bipush h (v := nI 16) dX4_ringed_5 (q := 7) rfl (by decide +kernel) ?_
      refine v_icmp_ge h dX4_ringed_7 (q := 10) rfl (tgt := 34) (by decide) (fun c2 => pb_kge hi2 (by decide) c2) (fun c2 => ?_)
      refine v_aload_n h dX4_ringed_10 (q := 11) rfl rfl rfl ?_
      refine v_iload_n h dX4_ringed_11 (q := 12) rfl rfl rfl ?_
      refine v_callV1 h (c_X4_allNeeds hfl hp hi2) kX4_allNeeds tw604 tw446 (by assumption) (by decide) rfl rfl rfl (by simp [Value.category]) (by decide) (Nat.zero_le _) (Nat.zero_le _) rfl dX4_ringed_12 (q := 15) rfl ?_
      refine v_iload_n h dX4_ringed_15 (q := 16) rfl rfl rfl ?_
      refine v_callSN1 h (c_X7_contains hfl (show i < 32 by omega)) kX7_contains rfl tw426 rfl rfl (by simp [Value.category]) (by decide) (Nat.zero_le _) (Nat.zero_le _) rfl dX4_ringed_16 (q := 19) rfl ?_
      refine v_if_eq h dX4_ringed_19 (q := 22) rfl (tgt := 28) (by decide) (fun c3 => ?_) (fun c3 => ?_)
      · skip
        have e8 := pb_b_0.mp c3
        have e9 := pb_set_f (c := (fun t => pb_in (pb_all (sg (p + 4)) t) t)) e8
        refine v_iinc h dX4_ringed_28 (q := 31) rfl rfl pb_inc rfl ?_
        refine v_goto h dX4_ringed_31 (tgt := 4) (by decide) ?_
        have h9 := ih (i + 1) (by omega)
        rw [e9] at h9
        exact h9
      · skip
        have e8 := pb_ne_f (fun q => c3 (pb_b_0.mpr q))
        have e9 := pb_set_t (c := (fun t => pb_in (pb_all (sg (p + 4)) t) t)) e8
        refine v_iload_n h dX4_ringed_22 (q := 23) rfl rfl rfl ?_
        refine v_iconst h (v := nI 1) dX4_ringed_23 (q := 24) rfl (by decide +kernel) ?_
        refine v_iload_n h dX4_ringed_24 (q := 25) rfl rfl rfl ?_
        refine v_ishl h dX4_ringed_25 (q := 26) rfl ?_
        refine v_ior h dX4_ringed_26 (q := 27) rfl ?_
        refine v_istore_n h dX4_ringed_27 (q := 28) rfl rfl (Nat.le_of_ble_eq_true rfl) rfl ?_
        refine v_iinc h dX4_ringed_28 (q := 31) rfl rfl pb_inc rfl ?_
        refine v_goto h dX4_ringed_31 (tgt := 4) (by decide) ?_
        have h9 := ih (i + 1) (by omega)
        rw [e9] at h9
        exact h9
  exact lp 16 0 (by omega)
set_option maxHeartbeats 4000000 in
set_option maxRecDepth 100000 in
theorem c_X7_lowest {l : Launch} (hfl : l.stackTraces = false) {sz : Nat} {sk : pb_Sk} {rf : pb_Rf} {sg : pb_Sg} {x : Int32} : pb_Met l mX7_lowest 2 0 0 [.int x] sz sk rf sg (pb_is (some (.int (pb_low x 16))) sz sk rf sg) := by
  refine pb_start hfl (by decide +kernel) rfl (pb_c1 rfl) (Nat.le_of_ble_eq_true rfl) (fun F hF h hQ => ?_)
  subst hF
  show pv F 0 0 sz sk rf sg 0 [some (.int x), none] []
  refine v_iconst h (v := nI 0) dX7_lowest_0 (q := 1) rfl (by decide +kernel) ?_
  refine v_istore_n h dX7_lowest_1 (q := 2) rfl rfl (Nat.le_of_ble_eq_true rfl) rfl ?_
  have lp : ∀ (j i : Nat), i + j = 16 → pb_low x j = pb_low x 16 → pv F 0 0 sz sk rf sg 2 [some (.int x), some (.int (nI i))] [] := by
    intro j
    induction j with
    | zero =>
      intro i  hi hy0
      obtain rfl : i = 16 := by omega
      refine v_iload_n h dX7_lowest_2 (q := 3) rfl rfl rfl ?_
      refine v_bipush h (v := nI 16) dX7_lowest_3 (q := 5) rfl (by decide +kernel) ?_
      refine v_icmp_ge h dX7_lowest_5 (q := 8) rfl (tgt := 24) (by decide) (fun c1 => ?_) (fun c1 => pb_kle (Nat.le_refl _) (by decide) c1)
      refine v_iconst h (v := (-1)) dX7_lowest_24 (q := 25) rfl (by decide +kernel) ?_
      refine v_iret h hQ rfl rfl dX7_lowest_25 (Nat.zero_le _) (Nat.zero_le _) ⟨by rw [← hy0]; rfl, rfl, rfl, rfl, rfl⟩
    | succ j ih =>
      intro i  hi hy0
      have hi2 : i < 16 := by omega
      refine v_iload_n h dX7_lowest_2 (q := 3) rfl rfl rfl ?_
      refine v_bipush h (v := nI 16) dX7_lowest_3 (q := 5) rfl (by decide +kernel) ?_
      refine v_icmp_ge h dX7_lowest_5 (q := 8) rfl (tgt := 24) (by decide) (fun c2 => pb_kge hi2 (by decide) c2) (fun c2 => ?_)
      refine v_iload_n h dX7_lowest_8 (q := 9) rfl rfl rfl ?_
      refine v_iload_n h dX7_lowest_9 (q := 10) rfl rfl rfl ?_
      refine v_callS1 h (c_X7_contains hfl (show i < 32 by omega)) kX7_contains rfl tw448 rfl rfl (by simp [Value.category]) (by decide) (Nat.zero_le _) (Nat.zero_le _) rfl dX7_lowest_10 (q := 13) rfl ?_
      refine v_if_eq h dX7_lowest_13 (q := 16) rfl (tgt := 18) (by decide) (fun c3 => ?_) (fun c3 => ?_)
      · skip
        have e8 := pb_b_0.mp c3
        refine v_iinc h dX7_lowest_18 (q := 21) rfl rfl pb_inc rfl ?_
        refine v_goto h dX7_lowest_21 (tgt := 2) (by decide) ?_
        refine ih (i + 1) (by omega) ?_
        rw [← hy0]
        symm
        show (if pb_in x (15 - j) = true then _ else _) = _
        rw [show 15 - j = i by omega, if_neg (by rw [e8]; decide)]
      · skip
        have e8 := pb_ne_f (fun q => c3 (pb_b_0.mpr q))
        have e9 : pb_low x 16 = nI i := by rw [← hy0]; show (if pb_in x (15 - j) = true then _ else _) = _; rw [show 15 - j = i by omega, if_pos e8]
        refine v_iload_n h dX7_lowest_16 (q := 17) rfl rfl rfl ?_
        refine v_iret h hQ rfl rfl dX7_lowest_17 (Nat.zero_le _) (Nat.zero_le _) ⟨by rw [e9], rfl, rfl, rfl, rfl⟩
  exact lp 16 0 (by omega) rfl
end
section
theorem dX1_lendOut_0 : decode cX1_lendOut 0 = .ok (.iload_n 3, 1) := by decide +kernel
theorem dX1_lendOut_1 : decode cX1_lendOut 1 = .ok (.istore 5, 2) := by decide +kernel
theorem dX1_lendOut_3 : decode cX1_lendOut 3 = .ok (.iload 5, 2) := by decide +kernel
theorem dX1_lendOut_5 : decode cX1_lendOut 5 = .ok (.iload 4, 2) := by decide +kernel
theorem dX1_lendOut_7 : decode cX1_lendOut 7 = .ok (.if_icmp .gt 19, 3) := by decide +kernel
theorem dX1_lendOut_10 : decode cX1_lendOut 10 = .ok (.aload_n 0, 1) := by decide +kernel
theorem dX1_lendOut_11 : decode cX1_lendOut 11 = .ok (.getfield 17, 3) := by decide +kernel
theorem dX1_lendOut_14 : decode cX1_lendOut 14 = .ok (.iload_n 1, 1) := by decide +kernel
theorem dX1_lendOut_15 : decode cX1_lendOut 15 = .ok (.aaload, 1) := by decide +kernel
theorem dX1_lendOut_16 : decode cX1_lendOut 16 = .ok (.iload 5, 2) := by decide +kernel
theorem dX1_lendOut_18 : decode cX1_lendOut 18 = .ok (.iload_n 2, 1) := by decide +kernel
theorem dX1_lendOut_19 : decode cX1_lendOut 19 = .ok (.iastore, 1) := by decide +kernel
theorem dX1_lendOut_20 : decode cX1_lendOut 20 = .ok (.iinc 5 1, 3) := by decide +kernel
theorem dX1_lendOut_23 : decode cX1_lendOut 23 = .ok (.goto (-20), 3) := by decide +kernel
theorem dX1_lendOut_26 : decode cX1_lendOut 26 = .ok (.aload_n 0, 1) := by decide +kernel
theorem dX1_lendOut_27 : decode cX1_lendOut 27 = .ok (.dup, 1) := by decide +kernel
theorem dX1_lendOut_28 : decode cX1_lendOut 28 = .ok (.getfield 20, 3) := by decide +kernel
theorem dX1_lendOut_31 : decode cX1_lendOut 31 = .ok (.iconst 1, 1) := by decide +kernel
theorem dX1_lendOut_32 : decode cX1_lendOut 32 = .ok (.iadd, 1) := by decide +kernel
theorem dX1_lendOut_33 : decode cX1_lendOut 33 = .ok (.putfield 20, 3) := by decide +kernel
theorem dX1_lendOut_36 : decode cX1_lendOut 36 = .ok (.return_, 1) := by decide +kernel
theorem dX1_heldBy_0 : decode cX1_heldBy 0 = .ok (.aload_n 0, 1) := by decide +kernel
theorem dX1_heldBy_1 : decode cX1_heldBy 1 = .ok (.getfield 17, 3) := by decide +kernel
theorem dX1_heldBy_4 : decode cX1_heldBy 4 = .ok (.iload_n 1, 1) := by decide +kernel
theorem dX1_heldBy_5 : decode cX1_heldBy 5 = .ok (.aaload, 1) := by decide +kernel
theorem dX1_heldBy_6 : decode cX1_heldBy 6 = .ok (.iload_n 2, 1) := by decide +kernel
theorem dX1_heldBy_7 : decode cX1_heldBy 7 = .ok (.iaload, 1) := by decide +kernel
theorem dX1_heldBy_8 : decode cX1_heldBy 8 = .ok (.istore_n 3, 1) := by decide +kernel
theorem dX1_heldBy_9 : decode cX1_heldBy 9 = .ok (.iload_n 3, 1) := by decide +kernel
theorem dX1_heldBy_10 : decode cX1_heldBy 10 = .ok (.iconst (-1), 1) := by decide +kernel
theorem dX1_heldBy_11 : decode cX1_heldBy 11 = .ok (.if_icmp .ne 12, 3) := by decide +kernel
theorem dX1_heldBy_14 : decode cX1_heldBy 14 = .ok (.aload_n 0, 1) := by decide +kernel
theorem dX1_heldBy_15 : decode cX1_heldBy 15 = .ok (.getfield 9, 3) := by decide +kernel
theorem dX1_heldBy_18 : decode cX1_heldBy 18 = .ok (.iload_n 1, 1) := by decide +kernel
theorem dX1_heldBy_19 : decode cX1_heldBy 19 = .ok (.iaload, 1) := by decide +kernel
theorem dX1_heldBy_20 : decode cX1_heldBy 20 = .ok (.goto 4, 3) := by decide +kernel
theorem dX1_heldBy_23 : decode cX1_heldBy 23 = .ok (.iload_n 3, 1) := by decide +kernel
theorem dX1_heldBy_24 : decode cX1_heldBy 24 = .ok (.ireturn, 1) := by decide +kernel
theorem dX2_keep_0 : decode cX2_keep 0 = .ok (.aload_n 0, 1) := by decide +kernel
theorem dX2_keep_1 : decode cX2_keep 1 = .ok (.getfield 9, 3) := by decide +kernel
theorem dX2_keep_4 : decode cX2_keep 4 = .ok (.aload_n 0, 1) := by decide +kernel
theorem dX2_keep_5 : decode cX2_keep 5 = .ok (.getfield 27, 3) := by decide +kernel
theorem dX2_keep_8 : decode cX2_keep 8 = .ok (.iload_n 2, 1) := by decide +kernel
theorem dX2_keep_9 : decode cX2_keep 9 = .ok (.iastore, 1) := by decide +kernel
theorem dX2_keep_10 : decode cX2_keep 10 = .ok (.aload_n 0, 1) := by decide +kernel
theorem dX2_keep_11 : decode cX2_keep 11 = .ok (.getfield 15, 3) := by decide +kernel
theorem dX2_keep_14 : decode cX2_keep 14 = .ok (.aload_n 0, 1) := by decide +kernel
theorem dX2_keep_15 : decode cX2_keep 15 = .ok (.getfield 27, 3) := by decide +kernel
theorem dX2_keep_18 : decode cX2_keep 18 = .ok (.aload_n 1, 1) := by decide +kernel
theorem dX2_keep_19 : decode cX2_keep 19 = .ok (.getfield 31, 3) := by decide +kernel
theorem dX2_keep_22 : decode cX2_keep 22 = .ok (.iload_n 2, 1) := by decide +kernel
theorem dX2_keep_23 : decode cX2_keep 23 = .ok (.iaload, 1) := by decide +kernel
theorem dX2_keep_24 : decode cX2_keep 24 = .ok (.iastore, 1) := by decide +kernel
theorem dX2_keep_25 : decode cX2_keep 25 = .ok (.aload_n 0, 1) := by decide +kernel
theorem dX2_keep_26 : decode cX2_keep 26 = .ok (.getfield 18, 3) := by decide +kernel
theorem dX2_keep_29 : decode cX2_keep 29 = .ok (.aload_n 0, 1) := by decide +kernel
theorem dX2_keep_30 : decode cX2_keep 30 = .ok (.getfield 27, 3) := by decide +kernel
theorem dX2_keep_33 : decode cX2_keep 33 = .ok (.aload_n 1, 1) := by decide +kernel
theorem dX2_keep_34 : decode cX2_keep 34 = .ok (.getfield 34, 3) := by decide +kernel
theorem dX2_keep_37 : decode cX2_keep 37 = .ok (.iload_n 2, 1) := by decide +kernel
theorem dX2_keep_38 : decode cX2_keep 38 = .ok (.iaload, 1) := by decide +kernel
theorem dX2_keep_39 : decode cX2_keep 39 = .ok (.iastore, 1) := by decide +kernel
theorem dX2_keep_40 : decode cX2_keep 40 = .ok (.aload_n 0, 1) := by decide +kernel
theorem dX2_keep_41 : decode cX2_keep 41 = .ok (.getfield 21, 3) := by decide +kernel
theorem dX2_keep_44 : decode cX2_keep 44 = .ok (.aload_n 0, 1) := by decide +kernel
theorem dX2_keep_45 : decode cX2_keep 45 = .ok (.getfield 27, 3) := by decide +kernel
theorem dX2_keep_48 : decode cX2_keep 48 = .ok (.aload_n 1, 1) := by decide +kernel
theorem dX2_keep_49 : decode cX2_keep 49 = .ok (.getfield 35, 3) := by decide +kernel
theorem dX2_keep_52 : decode cX2_keep 52 = .ok (.iload_n 2, 1) := by decide +kernel
theorem dX2_keep_53 : decode cX2_keep 53 = .ok (.iaload, 1) := by decide +kernel
theorem dX2_keep_54 : decode cX2_keep 54 = .ok (.iastore, 1) := by decide +kernel
theorem dX2_keep_55 : decode cX2_keep 55 = .ok (.aload_n 0, 1) := by decide +kernel
theorem dX2_keep_56 : decode cX2_keep 56 = .ok (.getfield 24, 3) := by decide +kernel
theorem dX2_keep_59 : decode cX2_keep 59 = .ok (.aload_n 0, 1) := by decide +kernel
theorem dX2_keep_60 : decode cX2_keep 60 = .ok (.getfield 27, 3) := by decide +kernel
theorem dX2_keep_63 : decode cX2_keep 63 = .ok (.aload_n 1, 1) := by decide +kernel
theorem dX2_keep_64 : decode cX2_keep 64 = .ok (.getfield 36, 3) := by decide +kernel
theorem dX2_keep_67 : decode cX2_keep 67 = .ok (.iload_n 2, 1) := by decide +kernel
theorem dX2_keep_68 : decode cX2_keep 68 = .ok (.iaload, 1) := by decide +kernel
theorem dX2_keep_69 : decode cX2_keep 69 = .ok (.iastore, 1) := by decide +kernel
theorem dX2_keep_70 : decode cX2_keep 70 = .ok (.aload_n 0, 1) := by decide +kernel
theorem dX2_keep_71 : decode cX2_keep 71 = .ok (.aload_n 0, 1) := by decide +kernel
theorem dX2_keep_72 : decode cX2_keep 72 = .ok (.getfield 27, 3) := by decide +kernel
theorem dX2_keep_75 : decode cX2_keep 75 = .ok (.iconst 1, 1) := by decide +kernel
theorem dX2_keep_76 : decode cX2_keep 76 = .ok (.iadd, 1) := by decide +kernel
theorem dX2_keep_77 : decode cX2_keep 77 = .ok (.bipush 30, 2) := by decide +kernel
theorem dX2_keep_79 : decode cX2_keep 79 = .ok (.if_icmp .ge 12, 3) := by decide +kernel
theorem dX2_keep_82 : decode cX2_keep 82 = .ok (.aload_n 0, 1) := by decide +kernel
theorem dX2_keep_83 : decode cX2_keep 83 = .ok (.getfield 27, 3) := by decide +kernel
theorem dX2_keep_86 : decode cX2_keep 86 = .ok (.iconst 1, 1) := by decide +kernel
theorem dX2_keep_87 : decode cX2_keep 87 = .ok (.iadd, 1) := by decide +kernel
theorem dX2_keep_88 : decode cX2_keep 88 = .ok (.goto 4, 3) := by decide +kernel
theorem dX2_keep_91 : decode cX2_keep 91 = .ok (.iconst 0, 1) := by decide +kernel
theorem dX2_keep_92 : decode cX2_keep 92 = .ok (.putfield 27, 3) := by decide +kernel
theorem dX2_keep_95 : decode cX2_keep 95 = .ok (.aload_n 0, 1) := by decide +kernel
theorem dX2_keep_96 : decode cX2_keep 96 = .ok (.getfield 37, 3) := by decide +kernel
theorem dX2_keep_99 : decode cX2_keep 99 = .ok (.bipush 30, 2) := by decide +kernel
theorem dX2_keep_101 : decode cX2_keep 101 = .ok (.if_icmp .ge 13, 3) := by decide +kernel
theorem dX2_keep_104 : decode cX2_keep 104 = .ok (.aload_n 0, 1) := by decide +kernel
theorem dX2_keep_105 : decode cX2_keep 105 = .ok (.dup, 1) := by decide +kernel
theorem dX2_keep_106 : decode cX2_keep 106 = .ok (.getfield 37, 3) := by decide +kernel
theorem dX2_keep_109 : decode cX2_keep 109 = .ok (.iconst 1, 1) := by decide +kernel
theorem dX2_keep_110 : decode cX2_keep 110 = .ok (.iadd, 1) := by decide +kernel
theorem dX2_keep_111 : decode cX2_keep 111 = .ok (.putfield 37, 3) := by decide +kernel
theorem dX2_keep_114 : decode cX2_keep 114 = .ok (.return_, 1) := by decide +kernel
theorem dX2_restore_0 : decode cX2_restore 0 = .ok (.aload_n 0, 1) := by decide +kernel
theorem dX2_restore_1 : decode cX2_restore 1 = .ok (.getfield 37, 3) := by decide +kernel
theorem dX2_restore_4 : decode cX2_restore 4 = .ok (.ifCond .le 84, 3) := by decide +kernel
theorem dX2_restore_7 : decode cX2_restore 7 = .ok (.aload_n 0, 1) := by decide +kernel
theorem dX2_restore_8 : decode cX2_restore 8 = .ok (.aload_n 0, 1) := by decide +kernel
theorem dX2_restore_9 : decode cX2_restore 9 = .ok (.getfield 27, 3) := by decide +kernel
theorem dX2_restore_12 : decode cX2_restore 12 = .ok (.ifCond .le 12, 3) := by decide +kernel
theorem dX2_restore_15 : decode cX2_restore 15 = .ok (.aload_n 0, 1) := by decide +kernel
theorem dX2_restore_16 : decode cX2_restore 16 = .ok (.getfield 27, 3) := by decide +kernel
theorem dX2_restore_19 : decode cX2_restore 19 = .ok (.iconst 1, 1) := by decide +kernel
theorem dX2_restore_20 : decode cX2_restore 20 = .ok (.isub, 1) := by decide +kernel
theorem dX2_restore_21 : decode cX2_restore 21 = .ok (.goto 5, 3) := by decide +kernel
theorem dX2_restore_24 : decode cX2_restore 24 = .ok (.bipush 29, 2) := by decide +kernel
theorem dX2_restore_26 : decode cX2_restore 26 = .ok (.putfield 27, 3) := by decide +kernel
theorem dX2_restore_29 : decode cX2_restore 29 = .ok (.aload_n 0, 1) := by decide +kernel
theorem dX2_restore_30 : decode cX2_restore 30 = .ok (.dup, 1) := by decide +kernel
theorem dX2_restore_31 : decode cX2_restore 31 = .ok (.getfield 37, 3) := by decide +kernel
theorem dX2_restore_34 : decode cX2_restore 34 = .ok (.iconst 1, 1) := by decide +kernel
theorem dX2_restore_35 : decode cX2_restore 35 = .ok (.isub, 1) := by decide +kernel
theorem dX2_restore_36 : decode cX2_restore 36 = .ok (.putfield 37, 3) := by decide +kernel
theorem dX2_restore_39 : decode cX2_restore 39 = .ok (.aload_n 1, 1) := by decide +kernel
theorem dX2_restore_40 : decode cX2_restore 40 = .ok (.aload_n 0, 1) := by decide +kernel
theorem dX2_restore_41 : decode cX2_restore 41 = .ok (.getfield 9, 3) := by decide +kernel
theorem dX2_restore_44 : decode cX2_restore 44 = .ok (.aload_n 0, 1) := by decide +kernel
theorem dX2_restore_45 : decode cX2_restore 45 = .ok (.getfield 27, 3) := by decide +kernel
theorem dX2_restore_48 : decode cX2_restore 48 = .ok (.iaload, 1) := by decide +kernel
theorem dX2_restore_49 : decode cX2_restore 49 = .ok (.aload_n 0, 1) := by decide +kernel
theorem dX2_restore_50 : decode cX2_restore 50 = .ok (.getfield 15, 3) := by decide +kernel
theorem dX2_restore_53 : decode cX2_restore 53 = .ok (.aload_n 0, 1) := by decide +kernel
theorem dX2_restore_54 : decode cX2_restore 54 = .ok (.getfield 27, 3) := by decide +kernel
theorem dX2_restore_57 : decode cX2_restore 57 = .ok (.iaload, 1) := by decide +kernel
theorem dX2_restore_58 : decode cX2_restore 58 = .ok (.aload_n 0, 1) := by decide +kernel
theorem dX2_restore_59 : decode cX2_restore 59 = .ok (.getfield 18, 3) := by decide +kernel
theorem dX2_restore_62 : decode cX2_restore 62 = .ok (.aload_n 0, 1) := by decide +kernel
theorem dX2_restore_63 : decode cX2_restore 63 = .ok (.getfield 27, 3) := by decide +kernel
theorem dX2_restore_66 : decode cX2_restore 66 = .ok (.iaload, 1) := by decide +kernel
theorem dX2_restore_67 : decode cX2_restore 67 = .ok (.aload_n 0, 1) := by decide +kernel
theorem dX2_restore_68 : decode cX2_restore 68 = .ok (.getfield 21, 3) := by decide +kernel
theorem dX2_restore_71 : decode cX2_restore 71 = .ok (.aload_n 0, 1) := by decide +kernel
theorem dX2_restore_72 : decode cX2_restore 72 = .ok (.getfield 27, 3) := by decide +kernel
theorem dX2_restore_75 : decode cX2_restore 75 = .ok (.iaload, 1) := by decide +kernel
theorem dX2_restore_76 : decode cX2_restore 76 = .ok (.aload_n 0, 1) := by decide +kernel
theorem dX2_restore_77 : decode cX2_restore 77 = .ok (.getfield 24, 3) := by decide +kernel
theorem dX2_restore_80 : decode cX2_restore 80 = .ok (.aload_n 0, 1) := by decide +kernel
theorem dX2_restore_81 : decode cX2_restore 81 = .ok (.getfield 27, 3) := by decide +kernel
theorem dX2_restore_84 : decode cX2_restore 84 = .ok (.iaload, 1) := by decide +kernel
theorem dX2_restore_85 : decode cX2_restore 85 = .ok (.invokevirtual 40, 3) := by decide +kernel
theorem dX2_restore_88 : decode cX2_restore 88 = .ok (.return_, 1) := by decide +kernel
theorem dX2_forget_0 : decode cX2_forget 0 = .ok (.aload_n 0, 1) := by decide +kernel
theorem dX2_forget_1 : decode cX2_forget 1 = .ok (.iconst 0, 1) := by decide +kernel
theorem dX2_forget_2 : decode cX2_forget 2 = .ok (.putfield 37, 3) := by decide +kernel
theorem dX2_forget_5 : decode cX2_forget 5 = .ok (.return_, 1) := by decide +kernel
theorem dX6_measure_0 : decode cX6_measure 0 = .ok (.iconst 0, 1) := by decide +kernel
theorem dX6_measure_1 : decode cX6_measure 1 = .ok (.istore_n 2, 1) := by decide +kernel
theorem dX6_measure_2 : decode cX6_measure 2 = .ok (.iload_n 2, 1) := by decide +kernel
theorem dX6_measure_3 : decode cX6_measure 3 = .ok (.bipush 16, 2) := by decide +kernel
theorem dX6_measure_5 : decode cX6_measure 5 = .ok (.if_icmp .ge 28, 3) := by decide +kernel
theorem dX6_measure_8 : decode cX6_measure 8 = .ok (.aload_n 0, 1) := by decide +kernel
theorem dX6_measure_9 : decode cX6_measure 9 = .ok (.getfield 9, 3) := by decide +kernel
theorem dX6_measure_12 : decode cX6_measure 12 = .ok (.iload_n 2, 1) := by decide +kernel
theorem dX6_measure_13 : decode cX6_measure 13 = .ok (.aload_n 1, 1) := by decide +kernel
theorem dX6_measure_14 : decode cX6_measure 14 = .ok (.getfield 18, 3) := by decide +kernel
theorem dX6_measure_17 : decode cX6_measure 17 = .ok (.iload_n 2, 1) := by decide +kernel
theorem dX6_measure_18 : decode cX6_measure 18 = .ok (.iaload, 1) := by decide +kernel
theorem dX6_measure_19 : decode cX6_measure 19 = .ok (.iastore, 1) := by decide +kernel
theorem dX6_measure_20 : decode cX6_measure 20 = .ok (.aload_n 0, 1) := by decide +kernel
theorem dX6_measure_21 : decode cX6_measure 21 = .ok (.getfield 15, 3) := by decide +kernel
theorem dX6_measure_24 : decode cX6_measure 24 = .ok (.iload_n 2, 1) := by decide +kernel
theorem dX6_measure_25 : decode cX6_measure 25 = .ok (.iconst 0, 1) := by decide +kernel
theorem dX6_measure_26 : decode cX6_measure 26 = .ok (.iastore, 1) := by decide +kernel
theorem dX6_measure_27 : decode cX6_measure 27 = .ok (.iinc 2 1, 3) := by decide +kernel
theorem dX6_measure_30 : decode cX6_measure 30 = .ok (.goto (-28), 3) := by decide +kernel
theorem dX6_measure_33 : decode cX6_measure 33 = .ok (.iconst 1, 1) := by decide +kernel
theorem dX6_measure_34 : decode cX6_measure 34 = .ok (.istore_n 2, 1) := by decide +kernel
theorem dX6_measure_35 : decode cX6_measure 35 = .ok (.iconst 0, 1) := by decide +kernel
theorem dX6_measure_36 : decode cX6_measure 36 = .ok (.istore_n 3, 1) := by decide +kernel
theorem dX6_measure_37 : decode cX6_measure 37 = .ok (.iload_n 2, 1) := by decide +kernel
theorem dX6_measure_38 : decode cX6_measure 38 = .ok (.ifCond .eq 43, 3) := by decide +kernel
theorem dX6_measure_41 : decode cX6_measure 41 = .ok (.iload_n 3, 1) := by decide +kernel
theorem dX6_measure_42 : decode cX6_measure 42 = .ok (.bipush 16, 2) := by decide +kernel
theorem dX6_measure_44 : decode cX6_measure 44 = .ok (.if_icmp .ge 37, 3) := by decide +kernel
theorem dX6_measure_47 : decode cX6_measure 47 = .ok (.iconst 0, 1) := by decide +kernel
theorem dX6_measure_48 : decode cX6_measure 48 = .ok (.istore_n 2, 1) := by decide +kernel
theorem dX6_measure_49 : decode cX6_measure 49 = .ok (.iconst 0, 1) := by decide +kernel
theorem dX6_measure_50 : decode cX6_measure 50 = .ok (.istore 4, 2) := by decide +kernel
theorem dX6_measure_52 : decode cX6_measure 52 = .ok (.iload 4, 2) := by decide +kernel
theorem dX6_measure_54 : decode cX6_measure 54 = .ok (.bipush 16, 2) := by decide +kernel
theorem dX6_measure_56 : decode cX6_measure 56 = .ok (.if_icmp .ge 19, 3) := by decide +kernel
theorem dX6_measure_59 : decode cX6_measure 59 = .ok (.iload_n 2, 1) := by decide +kernel
theorem dX6_measure_60 : decode cX6_measure 60 = .ok (.aload_n 0, 1) := by decide +kernel
theorem dX6_measure_61 : decode cX6_measure 61 = .ok (.aload_n 1, 1) := by decide +kernel
theorem dX6_measure_62 : decode cX6_measure 62 = .ok (.iload 4, 2) := by decide +kernel
theorem dX6_measure_64 : decode cX6_measure 64 = .ok (.invokevirtual 23, 3) := by decide +kernel
theorem dX6_measure_67 : decode cX6_measure 67 = .ok (.ior, 1) := by decide +kernel
theorem dX6_measure_68 : decode cX6_measure 68 = .ok (.istore_n 2, 1) := by decide +kernel
theorem dX6_measure_69 : decode cX6_measure 69 = .ok (.iinc 4 1, 3) := by decide +kernel
theorem dX6_measure_72 : decode cX6_measure 72 = .ok (.goto (-20), 3) := by decide +kernel
theorem dX6_measure_75 : decode cX6_measure 75 = .ok (.iinc 3 1, 3) := by decide +kernel
theorem dX6_measure_78 : decode cX6_measure 78 = .ok (.goto (-41), 3) := by decide +kernel
theorem dX6_measure_81 : decode cX6_measure 81 = .ok (.aload_n 0, 1) := by decide +kernel
theorem dX6_measure_82 : decode cX6_measure 82 = .ok (.iconst 0, 1) := by decide +kernel
theorem dX6_measure_83 : decode cX6_measure 83 = .ok (.putfield 27, 3) := by decide +kernel
theorem dX6_measure_86 : decode cX6_measure 86 = .ok (.iconst 0, 1) := by decide +kernel
theorem dX6_measure_87 : decode cX6_measure 87 = .ok (.istore_n 3, 1) := by decide +kernel
theorem dX6_measure_88 : decode cX6_measure 88 = .ok (.iload_n 3, 1) := by decide +kernel
theorem dX6_measure_89 : decode cX6_measure 89 = .ok (.bipush 16, 2) := by decide +kernel
theorem dX6_measure_91 : decode cX6_measure 91 = .ok (.if_icmp .ge 26, 3) := by decide +kernel
theorem dX6_measure_94 : decode cX6_measure 94 = .ok (.aload_n 0, 1) := by decide +kernel
theorem dX6_measure_95 : decode cX6_measure 95 = .ok (.aload_n 0, 1) := by decide +kernel
theorem dX6_measure_96 : decode cX6_measure 96 = .ok (.getfield 27, 3) := by decide +kernel
theorem dX6_measure_99 : decode cX6_measure 99 = .ok (.aload_n 0, 1) := by decide +kernel
theorem dX6_measure_100 : decode cX6_measure 100 = .ok (.getfield 9, 3) := by decide +kernel
theorem dX6_measure_103 : decode cX6_measure 103 = .ok (.iload_n 3, 1) := by decide +kernel
theorem dX6_measure_104 : decode cX6_measure 104 = .ok (.iaload, 1) := by decide +kernel
theorem dX6_measure_105 : decode cX6_measure 105 = .ok (.invokestatic 31, 3) := by decide +kernel
theorem dX6_measure_108 : decode cX6_measure 108 = .ok (.putfield 27, 3) := by decide +kernel
theorem dX6_measure_111 : decode cX6_measure 111 = .ok (.iinc 3 1, 3) := by decide +kernel
theorem dX6_measure_114 : decode cX6_measure 114 = .ok (.goto (-26), 3) := by decide +kernel
theorem dX6_measure_117 : decode cX6_measure 117 = .ok (.return_, 1) := by decide +kernel
theorem dX6_stretch_0 : decode cX6_stretch 0 = .ok (.iconst 0, 1) := by decide +kernel
theorem dX6_stretch_1 : decode cX6_stretch 1 = .ok (.istore_n 3, 1) := by decide +kernel
theorem dX6_stretch_2 : decode cX6_stretch 2 = .ok (.iconst 0, 1) := by decide +kernel
theorem dX6_stretch_3 : decode cX6_stretch 3 = .ok (.istore 4, 2) := by decide +kernel
theorem dX6_stretch_5 : decode cX6_stretch 5 = .ok (.iload 4, 2) := by decide +kernel
theorem dX6_stretch_7 : decode cX6_stretch 7 = .ok (.bipush 16, 2) := by decide +kernel
theorem dX6_stretch_9 : decode cX6_stretch 9 = .ok (.if_icmp .ge 123, 3) := by decide +kernel
theorem dX6_stretch_12 : decode cX6_stretch 12 = .ok (.aload_n 1, 1) := by decide +kernel
theorem dX6_stretch_13 : decode cX6_stretch 13 = .ok (.getfield 37, 3) := by decide +kernel
theorem dX6_stretch_16 : decode cX6_stretch 16 = .ok (.iload_n 2, 1) := by decide +kernel
theorem dX6_stretch_17 : decode cX6_stretch 17 = .ok (.iaload, 1) := by decide +kernel
theorem dX6_stretch_18 : decode cX6_stretch 18 = .ok (.iload 4, 2) := by decide +kernel
theorem dX6_stretch_20 : decode cX6_stretch 20 = .ok (.invokestatic 40, 3) := by decide +kernel
theorem dX6_stretch_23 : decode cX6_stretch 23 = .ok (.ifCond .eq 103, 3) := by decide +kernel
theorem dX6_stretch_26 : decode cX6_stretch 26 = .ok (.aload_n 0, 1) := by decide +kernel
theorem dX6_stretch_27 : decode cX6_stretch 27 = .ok (.getfield 15, 3) := by decide +kernel
theorem dX6_stretch_30 : decode cX6_stretch 30 = .ok (.iload 4, 2) := by decide +kernel
theorem dX6_stretch_32 : decode cX6_stretch 32 = .ok (.iaload, 1) := by decide +kernel
theorem dX6_stretch_33 : decode cX6_stretch 33 = .ok (.aload_n 1, 1) := by decide +kernel
theorem dX6_stretch_34 : decode cX6_stretch 34 = .ok (.getfield 18, 3) := by decide +kernel
theorem dX6_stretch_37 : decode cX6_stretch 37 = .ok (.iload 4, 2) := by decide +kernel
theorem dX6_stretch_39 : decode cX6_stretch 39 = .ok (.iaload, 1) := by decide +kernel
theorem dX6_stretch_40 : decode cX6_stretch 40 = .ok (.iadd, 1) := by decide +kernel
theorem dX6_stretch_41 : decode cX6_stretch 41 = .ok (.istore 5, 2) := by decide +kernel
theorem dX6_stretch_43 : decode cX6_stretch 43 = .ok (.aload_n 1, 1) := by decide +kernel
theorem dX6_stretch_44 : decode cX6_stretch 44 = .ok (.getfield 18, 3) := by decide +kernel
theorem dX6_stretch_47 : decode cX6_stretch 47 = .ok (.iload 4, 2) := by decide +kernel
theorem dX6_stretch_49 : decode cX6_stretch 49 = .ok (.iaload, 1) := by decide +kernel
theorem dX6_stretch_50 : decode cX6_stretch 50 = .ok (.aload_n 0, 1) := by decide +kernel
theorem dX6_stretch_51 : decode cX6_stretch 51 = .ok (.getfield 9, 3) := by decide +kernel
theorem dX6_stretch_54 : decode cX6_stretch 54 = .ok (.iload_n 2, 1) := by decide +kernel
theorem dX6_stretch_55 : decode cX6_stretch 55 = .ok (.iaload, 1) := by decide +kernel
theorem dX6_stretch_56 : decode cX6_stretch 56 = .ok (.iadd, 1) := by decide +kernel
theorem dX6_stretch_57 : decode cX6_stretch 57 = .ok (.istore 6, 2) := by decide +kernel
theorem dX6_stretch_59 : decode cX6_stretch 59 = .ok (.iload_n 3, 1) := by decide +kernel
theorem dX6_stretch_60 : decode cX6_stretch 60 = .ok (.iload 5, 2) := by decide +kernel
theorem dX6_stretch_62 : decode cX6_stretch 62 = .ok (.aload_n 0, 1) := by decide +kernel
theorem dX6_stretch_63 : decode cX6_stretch 63 = .ok (.getfield 15, 3) := by decide +kernel
theorem dX6_stretch_66 : decode cX6_stretch 66 = .ok (.iload_n 2, 1) := by decide +kernel
theorem dX6_stretch_67 : decode cX6_stretch 67 = .ok (.iaload, 1) := by decide +kernel
theorem dX6_stretch_68 : decode cX6_stretch 68 = .ok (.if_icmp .gt 15, 3) := by decide +kernel
theorem dX6_stretch_71 : decode cX6_stretch 71 = .ok (.iload 6, 2) := by decide +kernel
theorem dX6_stretch_73 : decode cX6_stretch 73 = .ok (.aload_n 0, 1) := by decide +kernel
theorem dX6_stretch_74 : decode cX6_stretch 74 = .ok (.getfield 9, 3) := by decide +kernel
theorem dX6_stretch_77 : decode cX6_stretch 77 = .ok (.iload 4, 2) := by decide +kernel
theorem dX6_stretch_79 : decode cX6_stretch 79 = .ok (.iaload, 1) := by decide +kernel
theorem dX6_stretch_80 : decode cX6_stretch 80 = .ok (.if_icmp .le 7, 3) := by decide +kernel
theorem dX6_stretch_83 : decode cX6_stretch 83 = .ok (.iconst 1, 1) := by decide +kernel
theorem dX6_stretch_84 : decode cX6_stretch 84 = .ok (.goto 4, 3) := by decide +kernel
theorem dX6_stretch_87 : decode cX6_stretch 87 = .ok (.iconst 0, 1) := by decide +kernel
theorem dX6_stretch_88 : decode cX6_stretch 88 = .ok (.ior, 1) := by decide +kernel
theorem dX6_stretch_89 : decode cX6_stretch 89 = .ok (.istore_n 3, 1) := by decide +kernel
theorem dX6_stretch_90 : decode cX6_stretch 90 = .ok (.aload_n 0, 1) := by decide +kernel
theorem dX6_stretch_91 : decode cX6_stretch 91 = .ok (.getfield 15, 3) := by decide +kernel
theorem dX6_stretch_94 : decode cX6_stretch 94 = .ok (.iload_n 2, 1) := by decide +kernel
theorem dX6_stretch_95 : decode cX6_stretch 95 = .ok (.aload_n 0, 1) := by decide +kernel
theorem dX6_stretch_96 : decode cX6_stretch 96 = .ok (.getfield 15, 3) := by decide +kernel
theorem dX6_stretch_99 : decode cX6_stretch 99 = .ok (.iload_n 2, 1) := by decide +kernel
theorem dX6_stretch_100 : decode cX6_stretch 100 = .ok (.iaload, 1) := by decide +kernel
theorem dX6_stretch_101 : decode cX6_stretch 101 = .ok (.iload 5, 2) := by decide +kernel
theorem dX6_stretch_103 : decode cX6_stretch 103 = .ok (.invokestatic 31, 3) := by decide +kernel
theorem dX6_stretch_106 : decode cX6_stretch 106 = .ok (.iastore, 1) := by decide +kernel
theorem dX6_stretch_107 : decode cX6_stretch 107 = .ok (.aload_n 0, 1) := by decide +kernel
theorem dX6_stretch_108 : decode cX6_stretch 108 = .ok (.getfield 9, 3) := by decide +kernel
theorem dX6_stretch_111 : decode cX6_stretch 111 = .ok (.iload 4, 2) := by decide +kernel
theorem dX6_stretch_113 : decode cX6_stretch 113 = .ok (.aload_n 0, 1) := by decide +kernel
theorem dX6_stretch_114 : decode cX6_stretch 114 = .ok (.getfield 9, 3) := by decide +kernel
theorem dX6_stretch_117 : decode cX6_stretch 117 = .ok (.iload 4, 2) := by decide +kernel
theorem dX6_stretch_119 : decode cX6_stretch 119 = .ok (.iaload, 1) := by decide +kernel
theorem dX6_stretch_120 : decode cX6_stretch 120 = .ok (.iload 6, 2) := by decide +kernel
theorem dX6_stretch_122 : decode cX6_stretch 122 = .ok (.invokestatic 31, 3) := by decide +kernel
theorem dX6_stretch_125 : decode cX6_stretch 125 = .ok (.iastore, 1) := by decide +kernel
theorem dX6_stretch_126 : decode cX6_stretch 126 = .ok (.iinc 4 1, 3) := by decide +kernel
theorem dX6_stretch_129 : decode cX6_stretch 129 = .ok (.goto (-124), 3) := by decide +kernel
theorem dX6_stretch_132 : decode cX6_stretch 132 = .ok (.iload_n 3, 1) := by decide +kernel
theorem dX6_stretch_133 : decode cX6_stretch 133 = .ok (.ireturn, 1) := by decide +kernel
theorem dX6_slackOf_0 : decode cX6_slackOf 0 = .ok (.aload_n 0, 1) := by decide +kernel
theorem dX6_slackOf_1 : decode cX6_slackOf 1 = .ok (.getfield 27, 3) := by decide +kernel
theorem dX6_slackOf_4 : decode cX6_slackOf 4 = .ok (.aload_n 0, 1) := by decide +kernel
theorem dX6_slackOf_5 : decode cX6_slackOf 5 = .ok (.getfield 15, 3) := by decide +kernel
theorem dX6_slackOf_8 : decode cX6_slackOf 8 = .ok (.iload_n 1, 1) := by decide +kernel
theorem dX6_slackOf_9 : decode cX6_slackOf 9 = .ok (.iaload, 1) := by decide +kernel
theorem dX6_slackOf_10 : decode cX6_slackOf 10 = .ok (.isub, 1) := by decide +kernel
theorem dX6_slackOf_11 : decode cX6_slackOf 11 = .ok (.aload_n 0, 1) := by decide +kernel
theorem dX6_slackOf_12 : decode cX6_slackOf 12 = .ok (.getfield 9, 3) := by decide +kernel
theorem dX6_slackOf_15 : decode cX6_slackOf 15 = .ok (.iload_n 1, 1) := by decide +kernel
theorem dX6_slackOf_16 : decode cX6_slackOf 16 = .ok (.iaload, 1) := by decide +kernel
theorem dX6_slackOf_17 : decode cX6_slackOf 17 = .ok (.isub, 1) := by decide +kernel
theorem dX6_slackOf_18 : decode cX6_slackOf 18 = .ok (.ireturn, 1) := by decide +kernel
theorem dJ7_fill_53178_0 : decode cJ7_fill_53178 0 = .ok (.iconst 0, 1) := by decide +kernel
theorem dJ7_fill_53178_1 : decode cJ7_fill_53178 1 = .ok (.istore_n 2, 1) := by decide +kernel
theorem dJ7_fill_53178_2 : decode cJ7_fill_53178 2 = .ok (.aload_n 0, 1) := by decide +kernel
theorem dJ7_fill_53178_3 : decode cJ7_fill_53178 3 = .ok (.arraylength, 1) := by decide +kernel
theorem dJ7_fill_53178_4 : decode cJ7_fill_53178 4 = .ok (.istore_n 3, 1) := by decide +kernel
theorem dJ7_fill_53178_5 : decode cJ7_fill_53178 5 = .ok (.iload_n 2, 1) := by decide +kernel
theorem dJ7_fill_53178_6 : decode cJ7_fill_53178 6 = .ok (.iload_n 3, 1) := by decide +kernel
theorem dJ7_fill_53178_7 : decode cJ7_fill_53178 7 = .ok (.if_icmp .ge 13, 3) := by decide +kernel
theorem dJ7_fill_53178_10 : decode cJ7_fill_53178 10 = .ok (.aload_n 0, 1) := by decide +kernel
theorem dJ7_fill_53178_11 : decode cJ7_fill_53178 11 = .ok (.iload_n 2, 1) := by decide +kernel
theorem dJ7_fill_53178_12 : decode cJ7_fill_53178 12 = .ok (.iload_n 1, 1) := by decide +kernel
theorem dJ7_fill_53178_13 : decode cJ7_fill_53178 13 = .ok (.iastore, 1) := by decide +kernel
theorem dJ7_fill_53178_14 : decode cJ7_fill_53178 14 = .ok (.iinc 2 1, 3) := by decide +kernel
theorem dJ7_fill_53178_17 : decode cJ7_fill_53178 17 = .ok (.goto (-12), 3) := by decide +kernel
theorem dJ7_fill_53178_20 : decode cJ7_fill_53178 20 = .ok (.return_, 1) := by decide +kernel
theorem dJ6_bitCount_0f7a4_0 : decode cJ6_bitCount_0f7a4 0 = .ok (.iload_n 0, 1) := by decide +kernel
theorem dJ6_bitCount_0f7a4_1 : decode cJ6_bitCount_0f7a4 1 = .ok (.iload_n 0, 1) := by decide +kernel
theorem dJ6_bitCount_0f7a4_2 : decode cJ6_bitCount_0f7a4 2 = .ok (.iconst 1, 1) := by decide +kernel
theorem dJ6_bitCount_0f7a4_3 : decode cJ6_bitCount_0f7a4 3 = .ok (.iushr, 1) := by decide +kernel
theorem dJ6_bitCount_0f7a4_4 : decode cJ6_bitCount_0f7a4 4 = .ok (.ldc_w 265, 3) := by decide +kernel
theorem dJ6_bitCount_0f7a4_7 : decode cJ6_bitCount_0f7a4 7 = .ok (.iand, 1) := by decide +kernel
theorem dJ6_bitCount_0f7a4_8 : decode cJ6_bitCount_0f7a4 8 = .ok (.isub, 1) := by decide +kernel
theorem dJ6_bitCount_0f7a4_9 : decode cJ6_bitCount_0f7a4 9 = .ok (.istore_n 0, 1) := by decide +kernel
theorem dJ6_bitCount_0f7a4_10 : decode cJ6_bitCount_0f7a4 10 = .ok (.iload_n 0, 1) := by decide +kernel
theorem dJ6_bitCount_0f7a4_11 : decode cJ6_bitCount_0f7a4 11 = .ok (.ldc_w 266, 3) := by decide +kernel
theorem dJ6_bitCount_0f7a4_14 : decode cJ6_bitCount_0f7a4 14 = .ok (.iand, 1) := by decide +kernel
theorem dJ6_bitCount_0f7a4_15 : decode cJ6_bitCount_0f7a4 15 = .ok (.iload_n 0, 1) := by decide +kernel
theorem dJ6_bitCount_0f7a4_16 : decode cJ6_bitCount_0f7a4 16 = .ok (.iconst 2, 1) := by decide +kernel
theorem dJ6_bitCount_0f7a4_17 : decode cJ6_bitCount_0f7a4 17 = .ok (.iushr, 1) := by decide +kernel
theorem dJ6_bitCount_0f7a4_18 : decode cJ6_bitCount_0f7a4 18 = .ok (.ldc_w 266, 3) := by decide +kernel
theorem dJ6_bitCount_0f7a4_21 : decode cJ6_bitCount_0f7a4 21 = .ok (.iand, 1) := by decide +kernel
theorem dJ6_bitCount_0f7a4_22 : decode cJ6_bitCount_0f7a4 22 = .ok (.iadd, 1) := by decide +kernel
theorem dJ6_bitCount_0f7a4_23 : decode cJ6_bitCount_0f7a4 23 = .ok (.istore_n 0, 1) := by decide +kernel
theorem dJ6_bitCount_0f7a4_24 : decode cJ6_bitCount_0f7a4 24 = .ok (.iload_n 0, 1) := by decide +kernel
theorem dJ6_bitCount_0f7a4_25 : decode cJ6_bitCount_0f7a4 25 = .ok (.iload_n 0, 1) := by decide +kernel
theorem dJ6_bitCount_0f7a4_26 : decode cJ6_bitCount_0f7a4 26 = .ok (.iconst 4, 1) := by decide +kernel
theorem dJ6_bitCount_0f7a4_27 : decode cJ6_bitCount_0f7a4 27 = .ok (.iushr, 1) := by decide +kernel
theorem dJ6_bitCount_0f7a4_28 : decode cJ6_bitCount_0f7a4 28 = .ok (.iadd, 1) := by decide +kernel
theorem dJ6_bitCount_0f7a4_29 : decode cJ6_bitCount_0f7a4 29 = .ok (.ldc_w 267, 3) := by decide +kernel
theorem dJ6_bitCount_0f7a4_32 : decode cJ6_bitCount_0f7a4 32 = .ok (.iand, 1) := by decide +kernel
theorem dJ6_bitCount_0f7a4_33 : decode cJ6_bitCount_0f7a4 33 = .ok (.istore_n 0, 1) := by decide +kernel
theorem dJ6_bitCount_0f7a4_34 : decode cJ6_bitCount_0f7a4 34 = .ok (.iload_n 0, 1) := by decide +kernel
theorem dJ6_bitCount_0f7a4_35 : decode cJ6_bitCount_0f7a4 35 = .ok (.iload_n 0, 1) := by decide +kernel
theorem dJ6_bitCount_0f7a4_36 : decode cJ6_bitCount_0f7a4 36 = .ok (.bipush 8, 2) := by decide +kernel
theorem dJ6_bitCount_0f7a4_38 : decode cJ6_bitCount_0f7a4 38 = .ok (.iushr, 1) := by decide +kernel
theorem dJ6_bitCount_0f7a4_39 : decode cJ6_bitCount_0f7a4 39 = .ok (.iadd, 1) := by decide +kernel
theorem dJ6_bitCount_0f7a4_40 : decode cJ6_bitCount_0f7a4 40 = .ok (.istore_n 0, 1) := by decide +kernel
theorem dJ6_bitCount_0f7a4_41 : decode cJ6_bitCount_0f7a4 41 = .ok (.iload_n 0, 1) := by decide +kernel
theorem dJ6_bitCount_0f7a4_42 : decode cJ6_bitCount_0f7a4 42 = .ok (.iload_n 0, 1) := by decide +kernel
theorem dJ6_bitCount_0f7a4_43 : decode cJ6_bitCount_0f7a4 43 = .ok (.bipush 16, 2) := by decide +kernel
theorem dJ6_bitCount_0f7a4_45 : decode cJ6_bitCount_0f7a4 45 = .ok (.iushr, 1) := by decide +kernel
theorem dJ6_bitCount_0f7a4_46 : decode cJ6_bitCount_0f7a4 46 = .ok (.iadd, 1) := by decide +kernel
theorem dJ6_bitCount_0f7a4_47 : decode cJ6_bitCount_0f7a4 47 = .ok (.istore_n 0, 1) := by decide +kernel
theorem dJ6_bitCount_0f7a4_48 : decode cJ6_bitCount_0f7a4 48 = .ok (.iload_n 0, 1) := by decide +kernel
theorem dJ6_bitCount_0f7a4_49 : decode cJ6_bitCount_0f7a4 49 = .ok (.bipush 63, 2) := by decide +kernel
theorem dJ6_bitCount_0f7a4_51 : decode cJ6_bitCount_0f7a4 51 = .ok (.iand, 1) := by decide +kernel
theorem dJ6_bitCount_0f7a4_52 : decode cJ6_bitCount_0f7a4 52 = .ok (.ireturn, 1) := by decide +kernel
theorem pb_up_at {sg : pb_Sg} {a k b j : Nat} {x : Int32} : pb_up sg a k x b j = if b = a ∧ j = k then x else sg b j := by
  unfold pb_up
  by_cases e : b = a
  · subst e
    simp [upd]
  · simp [e]
def pb_hist (sk : pb_Sk) (rf : pb_Rf) (h : Nat) : Prop := sk h = (8, 0) ∧ rf h 0 = some (h + 1) ∧ rf h 1 = some (h + 2) ∧ rf h 2 = some (h + 3) ∧ rf h 3 = some (h + 4) ∧ rf h 4 = some (h + 5) ∧ sk (h + 1) = (1, 30) ∧ sk (h + 2) = (1, 30) ∧ sk (h + 3) = (1, 30) ∧ sk (h + 4) = (1, 30) ∧ sk (h + 5) = (1, 30)
def pb_nx (n : Nat) : Nat := if n + 1 < 30 then n + 1 else 0
def pb_pv (n : Nat) : Nat := if 0 < n then n - 1 else 29
def pb_keepA (sg : pb_Sg) (o p t n : Nat) : pb_Sg :=
  let a1 := pb_up sg (o + 1) n (nI t)
  let a2 := pb_up a1 (o + 2) n (a1 (p + 1) t)
  let a3 := pb_up a2 (o + 3) n (a2 (p + 2) t)
  let a4 := pb_up a3 (o + 4) n (a3 (p + 3) t)
  let a5 := pb_up a4 (o + 5) n (a4 (p + 4) t)
  pb_up a5 o 5 (nI (pb_nx n))
def pb_keep (sg : pb_Sg) (o p t n s : Nat) : pb_Sg := if s < 30 then pb_up (pb_keepA sg o p t n) o 6 (nI (s + 1)) else pb_keepA sg o p t n
def pb_a2 (sg : pb_Sg) (o n s : Nat) : pb_Sg := pb_up (pb_up sg o 5 (nI (pb_pv n))) o 6 (nI (s - 1))
def pb_rest (sg : pb_Sg) (o p t n s : Nat) : pb_Sg :=
  pb_put (pb_a2 sg o n s) p t (pb_a2 sg o n s (o + 2) (pb_pv n)) (pb_a2 sg o n s (o + 3) (pb_pv n)) (pb_a2 sg o n s (o + 4) (pb_pv n)) (pb_a2 sg o n s (o + 5) (pb_pv n))
set_option maxHeartbeats 4000000 in
set_option maxRecDepth 100000 in
theorem c_X2_keep {l : Launch} (hfl : l.stackTraces = false) {sz : Nat} {sk : pb_Sk} {rf : pb_Rf} {sg : pb_Sg} {o p t nx s : Nat} (hh : pb_hist sk rf o) (hp : pb_plan sk rf p) (ht : t < 16) (hn : sg o 5 = nI nx) (hn30 : nx < 30) (hs : sg o 6 = nI s) (hs30 : s ≤ 30) : pb_Met l mX2_keep 1 0 0 [.ref o, .ref p, .int (nI t)] sz sk rf sg (pb_is none sz sk rf (pb_keep sg o p t nx s)) := by
  refine pb_start hfl (by decide +kernel) rfl (pb_c1 rfl) (Nat.le_of_ble_eq_true rfl) (fun F hF h hQ => ?_)
  subst hF
  show pv F 0 0 sz sk rf sg 0 [some (.ref o), some (.ref p), some (.int (nI t))] []
  obtain ⟨hh0, hh1, hh2, hh3, hh4, hh5, hh6, hh7, hh8, hh9, hh10⟩ := id hh
  obtain ⟨hp0, hp1, hp2, hp3, hp4, hp5, hp6, hp7, hp8⟩ := id hp
  refine v_aload_n h (i := 0) dX2_keep_0 (q := 1) rfl rfl rfl ?_
  refine v_getr h fl_X2_9 (by assumption) rfl (by assumption) dX2_keep_1 (q := 4) rfl ?_
  refine v_aload_n h (i := 0) dX2_keep_4 (q := 5) rfl rfl rfl ?_
  refine v_geti h fl_X2_27 (by assumption) rfl dX2_keep_5 (q := 8) rfl ?_
  refine v_iload_n h (i := 2) dX2_keep_8 (q := 9) rfl rfl rfl ?_
  refine v_iast h (by assumption) (by simp [pb_up_at, hn]) hn30 (by decide) dX2_keep_9 (q := 10) rfl ?_
  refine v_aload_n h (i := 0) dX2_keep_10 (q := 11) rfl rfl rfl ?_
  refine v_getr h fl_X2_15 (by assumption) rfl (by assumption) dX2_keep_11 (q := 14) rfl ?_
  refine v_aload_n h (i := 0) dX2_keep_14 (q := 15) rfl rfl rfl ?_
  refine v_geti h fl_X2_27 (by assumption) rfl dX2_keep_15 (q := 18) rfl ?_
  refine v_aload_n h (i := 1) dX2_keep_18 (q := 19) rfl rfl rfl ?_
  refine v_getr h fl_X2_31 (by assumption) rfl (by assumption) dX2_keep_19 (q := 22) rfl ?_
  refine v_iload_n h (i := 2) dX2_keep_22 (q := 23) rfl rfl rfl ?_
  refine v_iald h (by assumption) rfl (by first | assumption | omega) (by decide) dX2_keep_23 (q := 24) rfl ?_
  refine v_iast h (by assumption) (by simp [pb_up_at, hn]) hn30 (by decide) dX2_keep_24 (q := 25) rfl ?_
  refine v_aload_n h (i := 0) dX2_keep_25 (q := 26) rfl rfl rfl ?_
  refine v_getr h fl_X2_18 (by assumption) rfl (by assumption) dX2_keep_26 (q := 29) rfl ?_
  refine v_aload_n h (i := 0) dX2_keep_29 (q := 30) rfl rfl rfl ?_
  refine v_geti h fl_X2_27 (by assumption) rfl dX2_keep_30 (q := 33) rfl ?_
  refine v_aload_n h (i := 1) dX2_keep_33 (q := 34) rfl rfl rfl ?_
  refine v_getr h fl_X2_34 (by assumption) rfl (by assumption) dX2_keep_34 (q := 37) rfl ?_
  refine v_iload_n h (i := 2) dX2_keep_37 (q := 38) rfl rfl rfl ?_
  refine v_iald h (by assumption) rfl (by first | assumption | omega) (by decide) dX2_keep_38 (q := 39) rfl ?_
  refine v_iast h (by assumption) (by simp [pb_up_at, hn]) hn30 (by decide) dX2_keep_39 (q := 40) rfl ?_
  refine v_aload_n h (i := 0) dX2_keep_40 (q := 41) rfl rfl rfl ?_
  refine v_getr h fl_X2_21 (by assumption) rfl (by assumption) dX2_keep_41 (q := 44) rfl ?_
  refine v_aload_n h (i := 0) dX2_keep_44 (q := 45) rfl rfl rfl ?_
  refine v_geti h fl_X2_27 (by assumption) rfl dX2_keep_45 (q := 48) rfl ?_
  refine v_aload_n h (i := 1) dX2_keep_48 (q := 49) rfl rfl rfl ?_
  refine v_getr h fl_X2_35 (by assumption) rfl (by assumption) dX2_keep_49 (q := 52) rfl ?_
  refine v_iload_n h (i := 2) dX2_keep_52 (q := 53) rfl rfl rfl ?_
  refine v_iald h (by assumption) rfl (by first | assumption | omega) (by decide) dX2_keep_53 (q := 54) rfl ?_
  refine v_iast h (by assumption) (by simp [pb_up_at, hn]) hn30 (by decide) dX2_keep_54 (q := 55) rfl ?_
  refine v_aload_n h (i := 0) dX2_keep_55 (q := 56) rfl rfl rfl ?_
  refine v_getr h fl_X2_24 (by assumption) rfl (by assumption) dX2_keep_56 (q := 59) rfl ?_
  refine v_aload_n h (i := 0) dX2_keep_59 (q := 60) rfl rfl rfl ?_
  refine v_geti h fl_X2_27 (by assumption) rfl dX2_keep_60 (q := 63) rfl ?_
  refine v_aload_n h (i := 1) dX2_keep_63 (q := 64) rfl rfl rfl ?_
  refine v_getr h fl_X2_36 (by assumption) rfl (by assumption) dX2_keep_64 (q := 67) rfl ?_
  refine v_iload_n h (i := 2) dX2_keep_67 (q := 68) rfl rfl rfl ?_
  refine v_iald h (by assumption) rfl (by first | assumption | omega) (by decide) dX2_keep_68 (q := 69) rfl ?_
  refine v_iast h (by assumption) (by simp [pb_up_at, hn]) hn30 (by decide) dX2_keep_69 (q := 70) rfl ?_
  refine v_aload_n h (i := 0) dX2_keep_70 (q := 71) rfl rfl rfl ?_
  refine v_aload_n h (i := 0) dX2_keep_71 (q := 72) rfl rfl rfl ?_
  refine v_geti h fl_X2_27 (by assumption) rfl dX2_keep_72 (q := 75) rfl ?_
  refine v_iconst h (v := nI 1) dX2_keep_75 (q := 76) rfl (by decide +kernel) ?_
  refine v_iadd h dX2_keep_76 (q := 77) rfl ?_
  refine v_bipush h (v := nI 30) dX2_keep_77 (q := 79) rfl (by decide +kernel) ?_
  refine v_icmp_ge h dX2_keep_79 (q := 82) rfl (tgt := 91) (by decide) (fun c1 => ?_) (fun c1 => ?_)
  · skip
    have h9 : 30 ≤ nx + 1 := (nI_leI (by omega) (by omega)).mp (by simpa [pb_up_at, hn, nI_add] using c1)
    have e9 : pb_nx nx = 0 := if_neg (by omega)
    refine v_iconst h (v := nI 0) dX2_keep_91 (q := 92) rfl (by decide +kernel) ?_
    refine v_eq (st' := [.int (nI (pb_nx nx)), .ref o]) (by simp [pb_up_at, hn, e9, nI_add]) ?_
    refine v_puti h fl_X2_27 (by assumption) rfl rfl dX2_keep_92 (q := 95) rfl ?_
    refine v_aload_n h (i := 0) dX2_keep_95 (q := 96) rfl rfl rfl ?_
    refine v_geti h fl_X2_37 (by assumption) rfl dX2_keep_96 (q := 99) rfl ?_
    refine v_bipush h (v := nI 30) dX2_keep_99 (q := 101) rfl (by decide +kernel) ?_
    refine v_icmp_ge h dX2_keep_101 (q := 104) rfl (tgt := 114) (by decide) (fun c2 => ?_) (fun c2 => ?_)
    · skip
      have h8 : 30 ≤ s := (nI_leI (by omega) (by omega)).mp (by simpa [pb_up_at, hs] using c2)
      have e8 : pb_keep sg o p t nx s = pb_keepA sg o p t nx := if_neg (by omega)
      refine v_vret h hQ rfl dX2_keep_114 (Nat.zero_le _) (Nat.zero_le _) ⟨rfl, rfl, rfl, rfl, by rw [e8]; rfl⟩
    · skip
      have h8 : ¬ 30 ≤ s := fun q => c2 (by simpa [pb_up_at, hs] using (nI_leI (a := 30) (b := s) (by omega) (by omega)).mpr q)
      have e8 : pb_keep sg o p t nx s = pb_up (pb_keepA sg o p t nx) o 6 (nI (s + 1)) := if_pos (by omega)
      refine v_aload_n h (i := 0) dX2_keep_104 (q := 105) rfl rfl rfl ?_
      refine v_dup h dX2_keep_105 (q := 106) rfl rfl ?_
      refine v_geti h fl_X2_37 (by assumption) rfl dX2_keep_106 (q := 109) rfl ?_
      refine v_iconst h (v := nI 1) dX2_keep_109 (q := 110) rfl (by decide +kernel) ?_
      refine v_iadd h dX2_keep_110 (q := 111) rfl ?_
      refine v_eq (st' := [.int (nI (s + 1)), .ref o]) (by simp [pb_up_at, hs, nI_add]) ?_
      refine v_puti h fl_X2_37 (by assumption) rfl rfl dX2_keep_111 (q := 114) rfl ?_
      refine v_vret h hQ rfl dX2_keep_114 (Nat.zero_le _) (Nat.zero_le _) ⟨rfl, rfl, rfl, rfl, by rw [e8]; rfl⟩
  · skip
    have h9 : ¬ 30 ≤ nx + 1 := fun q => c1 (by simpa [pb_up_at, hn, nI_add] using (nI_leI (a := 30) (b := nx + 1) (by omega) (by omega)).mpr q)
    have e9 : pb_nx nx = nx + 1 := if_pos (by omega)
    refine v_aload_n h (i := 0) dX2_keep_82 (q := 83) rfl rfl rfl ?_
    refine v_geti h fl_X2_27 (by assumption) rfl dX2_keep_83 (q := 86) rfl ?_
    refine v_iconst h (v := nI 1) dX2_keep_86 (q := 87) rfl (by decide +kernel) ?_
    refine v_iadd h dX2_keep_87 (q := 88) rfl ?_
    refine v_goto h dX2_keep_88 (tgt := 92) (by decide) ?_
    refine v_eq (st' := [.int (nI (pb_nx nx)), .ref o]) (by simp [pb_up_at, hn, e9, nI_add]) ?_
    refine v_puti h fl_X2_27 (by assumption) rfl rfl dX2_keep_92 (q := 95) rfl ?_
    refine v_aload_n h (i := 0) dX2_keep_95 (q := 96) rfl rfl rfl ?_
    refine v_geti h fl_X2_37 (by assumption) rfl dX2_keep_96 (q := 99) rfl ?_
    refine v_bipush h (v := nI 30) dX2_keep_99 (q := 101) rfl (by decide +kernel) ?_
    refine v_icmp_ge h dX2_keep_101 (q := 104) rfl (tgt := 114) (by decide) (fun c3 => ?_) (fun c3 => ?_)
    · skip
      have h8 : 30 ≤ s := (nI_leI (by omega) (by omega)).mp (by simpa [pb_up_at, hs] using c3)
      have e8 : pb_keep sg o p t nx s = pb_keepA sg o p t nx := if_neg (by omega)
      refine v_vret h hQ rfl dX2_keep_114 (Nat.zero_le _) (Nat.zero_le _) ⟨rfl, rfl, rfl, rfl, by rw [e8]; rfl⟩
    · skip
      have h8 : ¬ 30 ≤ s := fun q => c3 (by simpa [pb_up_at, hs] using (nI_leI (a := 30) (b := s) (by omega) (by omega)).mpr q)
      have e8 : pb_keep sg o p t nx s = pb_up (pb_keepA sg o p t nx) o 6 (nI (s + 1)) := if_pos (by omega)
      refine v_aload_n h (i := 0) dX2_keep_104 (q := 105) rfl rfl rfl ?_
      refine v_dup h dX2_keep_105 (q := 106) rfl rfl ?_
      refine v_geti h fl_X2_37 (by assumption) rfl dX2_keep_106 (q := 109) rfl ?_
      refine v_iconst h (v := nI 1) dX2_keep_109 (q := 110) rfl (by decide +kernel) ?_
      refine v_iadd h dX2_keep_110 (q := 111) rfl ?_
      refine v_eq (st' := [.int (nI (s + 1)), .ref o]) (by simp [pb_up_at, hs, nI_add]) ?_
      refine v_puti h fl_X2_37 (by assumption) rfl rfl dX2_keep_111 (q := 114) rfl ?_
      refine v_vret h hQ rfl dX2_keep_114 (Nat.zero_le _) (Nat.zero_le _) ⟨rfl, rfl, rfl, rfl, by rw [e8]; rfl⟩
set_option maxHeartbeats 4000000 in
set_option maxRecDepth 100000 in
theorem c_X2_restore {l : Launch} (hfl : l.stackTraces = false) {sz : Nat} {sk : pb_Sk} {rf : pb_Rf} {sg : pb_Sg} {o p t nx s : Nat} (hh : pb_hist sk rf o) (hp : pb_plan sk rf p) (ht : t < 16) (hn : sg o 5 = nI nx) (hn30 : nx < 30) (hs : sg o 6 = nI s) (hs0 : 0 < s) (hs30 : s ≤ 30) (hc : sg (o + 1) (pb_pv nx) = nI t) : pb_Met l mX2_restore 2 0 0 [.ref o, .ref p] sz sk rf sg (pb_is none sz sk rf (pb_rest sg o p t nx s)) := by
  refine pb_start hfl (by decide +kernel) rfl (pb_c1 rfl) (Nat.le_of_ble_eq_true rfl) (fun F hF h hQ => ?_)
  subst hF
  show pv F 0 0 sz sk rf sg 0 [some (.ref o), some (.ref p)] []
  obtain ⟨hh0, hh1, hh2, hh3, hh4, hh5, hh6, hh7, hh8, hh9, hh10⟩ := id hh
  obtain ⟨hp0, hp1, hp2, hp3, hp4, hp5, hp6, hp7, hp8⟩ := id hp
  have hv30 : pb_pv nx < 30 := by unfold pb_pv; split <;> omega
  refine v_aload_n h (i := 0) dX2_restore_0 (q := 1) rfl rfl rfl ?_
  refine v_geti h fl_X2_37 (by assumption) rfl dX2_restore_1 (q := 4) rfl ?_
  refine v_if_le h dX2_restore_4 (q := 7) rfl (tgt := 88) (by decide) (fun c1 => absurd c1 (by rw [hs]; exact nI_nle hs0 (by omega))) (fun c1 => ?_)
  refine v_aload_n h (i := 0) dX2_restore_7 (q := 8) rfl rfl rfl ?_
  refine v_aload_n h (i := 0) dX2_restore_8 (q := 9) rfl rfl rfl ?_
  refine v_geti h fl_X2_27 (by assumption) rfl dX2_restore_9 (q := 12) rfl ?_
  refine v_if_le h dX2_restore_12 (q := 15) rfl (tgt := 24) (by decide) (fun c2 => ?_) (fun c2 => ?_)
  · skip
    have h9 : ¬ 0 < nx := fun q => absurd c2 (by rw [hn]; exact nI_nle q (by omega))
    have e9 : pb_pv nx = 29 := if_neg h9
    refine v_bipush h (v := nI 29) dX2_restore_24 (q := 26) rfl (by decide +kernel) ?_
    refine v_eq (st' := [.int (nI (pb_pv nx)), .ref o]) (by first | (rw [e9]; done) | (rw [e9, hn, pk_sub (by omega)])) ?_
    refine v_puti h fl_X2_27 (by assumption) rfl rfl dX2_restore_26 (q := 29) rfl ?_
    refine v_aload_n h (i := 0) dX2_restore_29 (q := 30) rfl rfl rfl ?_
    refine v_dup h dX2_restore_30 (q := 31) rfl rfl ?_
    refine v_geti h fl_X2_37 (by assumption) rfl dX2_restore_31 (q := 34) rfl ?_
    refine v_iconst h (v := nI 1) dX2_restore_34 (q := 35) rfl (by decide +kernel) ?_
    refine v_isub h dX2_restore_35 (q := 36) rfl ?_
    refine v_eq (st' := [.int (nI (s - 1)), .ref o]) (by simp [pb_up_at, hs, pk_sub hs0]) ?_
    refine v_puti h fl_X2_37 (by assumption) rfl rfl dX2_restore_36 (q := 39) rfl ?_
    refine v_aload_n h (i := 1) dX2_restore_39 (q := 40) rfl rfl rfl ?_
    refine v_aload_n h (i := 0) dX2_restore_40 (q := 41) rfl rfl rfl ?_
    refine v_getr h fl_X2_9 (by assumption) rfl (by assumption) dX2_restore_41 (q := 44) rfl ?_
    refine v_aload_n h (i := 0) dX2_restore_44 (q := 45) rfl rfl rfl ?_
    refine v_geti h fl_X2_27 (by assumption) rfl dX2_restore_45 (q := 48) rfl ?_
    refine v_iald h (by assumption) (by simp [pb_up_at]) hv30 (by decide) dX2_restore_48 (q := 49) rfl ?_
    refine v_aload_n h (i := 0) dX2_restore_49 (q := 50) rfl rfl rfl ?_
    refine v_getr h fl_X2_15 (by assumption) rfl (by assumption) dX2_restore_50 (q := 53) rfl ?_
    refine v_aload_n h (i := 0) dX2_restore_53 (q := 54) rfl rfl rfl ?_
    refine v_geti h fl_X2_27 (by assumption) rfl dX2_restore_54 (q := 57) rfl ?_
    refine v_iald h (by assumption) (by simp [pb_up_at]) hv30 (by decide) dX2_restore_57 (q := 58) rfl ?_
    refine v_aload_n h (i := 0) dX2_restore_58 (q := 59) rfl rfl rfl ?_
    refine v_getr h fl_X2_18 (by assumption) rfl (by assumption) dX2_restore_59 (q := 62) rfl ?_
    refine v_aload_n h (i := 0) dX2_restore_62 (q := 63) rfl rfl rfl ?_
    refine v_geti h fl_X2_27 (by assumption) rfl dX2_restore_63 (q := 66) rfl ?_
    refine v_iald h (by assumption) (by simp [pb_up_at]) hv30 (by decide) dX2_restore_66 (q := 67) rfl ?_
    refine v_aload_n h (i := 0) dX2_restore_67 (q := 68) rfl rfl rfl ?_
    refine v_getr h fl_X2_21 (by assumption) rfl (by assumption) dX2_restore_68 (q := 71) rfl ?_
    refine v_aload_n h (i := 0) dX2_restore_71 (q := 72) rfl rfl rfl ?_
    refine v_geti h fl_X2_27 (by assumption) rfl dX2_restore_72 (q := 75) rfl ?_
    refine v_iald h (by assumption) (by simp [pb_up_at]) hv30 (by decide) dX2_restore_75 (q := 76) rfl ?_
    refine v_aload_n h (i := 0) dX2_restore_76 (q := 77) rfl rfl rfl ?_
    refine v_getr h fl_X2_24 (by assumption) rfl (by assumption) dX2_restore_77 (q := 80) rfl ?_
    refine v_aload_n h (i := 0) dX2_restore_80 (q := 81) rfl rfl rfl ?_
    refine v_geti h fl_X2_27 (by assumption) rfl dX2_restore_81 (q := 84) rfl ?_
    refine v_iald h (by assumption) (by simp [pb_up_at]) hv30 (by decide) dX2_restore_84 (q := 85) rfl ?_
    refine v_eq (st' := [.int (pb_a2 sg o nx s (o + 5) (pb_pv nx)), .int (pb_a2 sg o nx s (o + 4) (pb_pv nx)), .int (pb_a2 sg o nx s (o + 3) (pb_pv nx)), .int (pb_a2 sg o nx s (o + 2) (pb_pv nx)), .int (nI t), .ref p]) (by simp [pb_a2, pb_up_at, hc]) ?_
    refine v_callV0 h (c_X4_put hfl hp ht) kX4_put tw462 tw396 (by assumption) (by decide) rfl rfl rfl (by simp [Value.category]) (by decide) (Nat.zero_le _) (Nat.zero_le _) rfl dX2_restore_85 (q := 88) rfl ?_
    refine v_vret h hQ rfl dX2_restore_88 (Nat.zero_le _) (Nat.zero_le _) ⟨rfl, rfl, rfl, rfl, rfl⟩
  · skip
    have h9 : 0 < nx := by
      rcases Nat.eq_zero_or_pos nx with q | q
      · exact absurd (by rw [hn, q]; decide) c2
      · exact q
    have e9 : pb_pv nx = nx - 1 := if_pos h9
    refine v_aload_n h (i := 0) dX2_restore_15 (q := 16) rfl rfl rfl ?_
    refine v_geti h fl_X2_27 (by assumption) rfl dX2_restore_16 (q := 19) rfl ?_
    refine v_iconst h (v := nI 1) dX2_restore_19 (q := 20) rfl (by decide +kernel) ?_
    refine v_isub h dX2_restore_20 (q := 21) rfl ?_
    refine v_goto h dX2_restore_21 (tgt := 26) (by decide) ?_
    refine v_eq (st' := [.int (nI (pb_pv nx)), .ref o]) (by first | (rw [e9]; done) | (rw [e9, hn, pk_sub (by omega)])) ?_
    refine v_puti h fl_X2_27 (by assumption) rfl rfl dX2_restore_26 (q := 29) rfl ?_
    refine v_aload_n h (i := 0) dX2_restore_29 (q := 30) rfl rfl rfl ?_
    refine v_dup h dX2_restore_30 (q := 31) rfl rfl ?_
    refine v_geti h fl_X2_37 (by assumption) rfl dX2_restore_31 (q := 34) rfl ?_
    refine v_iconst h (v := nI 1) dX2_restore_34 (q := 35) rfl (by decide +kernel) ?_
    refine v_isub h dX2_restore_35 (q := 36) rfl ?_
    refine v_eq (st' := [.int (nI (s - 1)), .ref o]) (by simp [pb_up_at, hs, pk_sub hs0]) ?_
    refine v_puti h fl_X2_37 (by assumption) rfl rfl dX2_restore_36 (q := 39) rfl ?_
    refine v_aload_n h (i := 1) dX2_restore_39 (q := 40) rfl rfl rfl ?_
    refine v_aload_n h (i := 0) dX2_restore_40 (q := 41) rfl rfl rfl ?_
    refine v_getr h fl_X2_9 (by assumption) rfl (by assumption) dX2_restore_41 (q := 44) rfl ?_
    refine v_aload_n h (i := 0) dX2_restore_44 (q := 45) rfl rfl rfl ?_
    refine v_geti h fl_X2_27 (by assumption) rfl dX2_restore_45 (q := 48) rfl ?_
    refine v_iald h (by assumption) (by simp [pb_up_at]) hv30 (by decide) dX2_restore_48 (q := 49) rfl ?_
    refine v_aload_n h (i := 0) dX2_restore_49 (q := 50) rfl rfl rfl ?_
    refine v_getr h fl_X2_15 (by assumption) rfl (by assumption) dX2_restore_50 (q := 53) rfl ?_
    refine v_aload_n h (i := 0) dX2_restore_53 (q := 54) rfl rfl rfl ?_
    refine v_geti h fl_X2_27 (by assumption) rfl dX2_restore_54 (q := 57) rfl ?_
    refine v_iald h (by assumption) (by simp [pb_up_at]) hv30 (by decide) dX2_restore_57 (q := 58) rfl ?_
    refine v_aload_n h (i := 0) dX2_restore_58 (q := 59) rfl rfl rfl ?_
    refine v_getr h fl_X2_18 (by assumption) rfl (by assumption) dX2_restore_59 (q := 62) rfl ?_
    refine v_aload_n h (i := 0) dX2_restore_62 (q := 63) rfl rfl rfl ?_
    refine v_geti h fl_X2_27 (by assumption) rfl dX2_restore_63 (q := 66) rfl ?_
    refine v_iald h (by assumption) (by simp [pb_up_at]) hv30 (by decide) dX2_restore_66 (q := 67) rfl ?_
    refine v_aload_n h (i := 0) dX2_restore_67 (q := 68) rfl rfl rfl ?_
    refine v_getr h fl_X2_21 (by assumption) rfl (by assumption) dX2_restore_68 (q := 71) rfl ?_
    refine v_aload_n h (i := 0) dX2_restore_71 (q := 72) rfl rfl rfl ?_
    refine v_geti h fl_X2_27 (by assumption) rfl dX2_restore_72 (q := 75) rfl ?_
    refine v_iald h (by assumption) (by simp [pb_up_at]) hv30 (by decide) dX2_restore_75 (q := 76) rfl ?_
    refine v_aload_n h (i := 0) dX2_restore_76 (q := 77) rfl rfl rfl ?_
    refine v_getr h fl_X2_24 (by assumption) rfl (by assumption) dX2_restore_77 (q := 80) rfl ?_
    refine v_aload_n h (i := 0) dX2_restore_80 (q := 81) rfl rfl rfl ?_
    refine v_geti h fl_X2_27 (by assumption) rfl dX2_restore_81 (q := 84) rfl ?_
    refine v_iald h (by assumption) (by simp [pb_up_at]) hv30 (by decide) dX2_restore_84 (q := 85) rfl ?_
    refine v_eq (st' := [.int (pb_a2 sg o nx s (o + 5) (pb_pv nx)), .int (pb_a2 sg o nx s (o + 4) (pb_pv nx)), .int (pb_a2 sg o nx s (o + 3) (pb_pv nx)), .int (pb_a2 sg o nx s (o + 2) (pb_pv nx)), .int (nI t), .ref p]) (by simp [pb_a2, pb_up_at, hc]) ?_
    refine v_callV0 h (c_X4_put hfl hp ht) kX4_put tw462 tw396 (by assumption) (by decide) rfl rfl rfl (by simp [Value.category]) (by decide) (Nat.zero_le _) (Nat.zero_le _) rfl dX2_restore_85 (q := 88) rfl ?_
    refine v_vret h hQ rfl dX2_restore_88 (Nat.zero_le _) (Nat.zero_le _) ⟨rfl, rfl, rfl, rfl, rfl⟩
set_option maxHeartbeats 4000000 in
set_option maxRecDepth 100000 in
theorem c_X2_forget {l : Launch} (hfl : l.stackTraces = false) {sz : Nat} {sk : pb_Sk} {rf : pb_Rf} {sg : pb_Sg} {o : Nat} (hh : pb_hist sk rf o) : pb_Met l mX2_forget 1 0 0 [.ref o] sz sk rf sg (pb_is none sz sk rf (pb_up sg o 6 (nI 0))) := by
  refine pb_start hfl (by decide +kernel) rfl (pb_c1 rfl) (Nat.le_of_ble_eq_true rfl) (fun F hF h hQ => ?_)
  subst hF
  show pv F 0 0 sz sk rf sg 0 [some (.ref o)] []
  have hh0 := hh.1
  refine v_aload_n h (i := 0) dX2_forget_0 (q := 1) rfl rfl rfl ?_
  refine v_iconst h (v := nI 0) dX2_forget_1 (q := 2) rfl (by decide +kernel) ?_
  refine v_puti h fl_X2_37 (by assumption) rfl rfl dX2_forget_2 (q := 5) rfl ?_
  refine v_vret h hQ rfl dX2_forget_5 (Nat.zero_le _) (Nat.zero_le _) ⟨rfl, rfl, rfl, rfl, rfl⟩
def pb_crews (sk : pb_Sk) (rf : pb_Rf) (c : Nat) : Prop := sk c = (7, 0) ∧ rf c 0 = some (c + 1) ∧ rf c 1 = some (c + 2) ∧ sk (c + 1) = (1, 5) ∧ sk (c + 2) = (5, 5) ∧ (∀ i, i < 5 → rf (c + 2) i = some (c + 3 + i)) ∧ ∀ i, i < 5 → sk (c + 3 + i) = (1, 400)
def pb_held (sg : pb_Sg) (c i d : Nat) : Int32 := if sg (c + 3 + i) d = -1 then sg (c + 1) i else sg (c + 3 + i) d
/-- the cells k from lo on, m of them, of the array a become x -/
def pb_fillN (sg : pb_Sg) (a lo : Nat) (x : Int32) : Nat → pb_Sg
  | 0 => sg
  | n + 1 => pb_up (pb_fillN sg a lo x n) a (lo + n) x
set_option maxHeartbeats 4000000 in
set_option maxRecDepth 100000 in
theorem c_X1_heldBy {l : Launch} (hfl : l.stackTraces = false) {sz : Nat} {sk : pb_Sk} {rf : pb_Rf} {sg : pb_Sg} {c i d : Nat} (hc : pb_crews sk rf c) (hi : i < 5) (hd : d < 400) : pb_Met l mX1_heldBy 1 0 0 [.ref c, .int (nI i), .int (nI d)] sz sk rf sg (pb_is (some (.int (pb_held sg c i d))) sz sk rf sg) := by
  refine pb_start hfl (by decide +kernel) rfl (pb_c1 rfl) (Nat.le_of_ble_eq_true rfl) (fun F hF h hQ => ?_)
  subst hF
  show pv F 0 0 sz sk rf sg 0 [some (.ref c), some (.int (nI i)), some (.int (nI d)), none] []
  obtain ⟨hc0, hc1, hc2, hc3, hc4, hc5, hc6⟩ := id hc
  have hr := hc6 i hi
  refine v_aload_n h (i := 0) dX1_heldBy_0 (q := 1) rfl rfl rfl ?_
  refine v_getr h fl_X1_17 (by assumption) rfl (by assumption) dX1_heldBy_1 (q := 4) rfl ?_
  refine v_iload_n h (i := 1) dX1_heldBy_4 (q := 5) rfl rfl rfl ?_
  refine v_aald5 h (by assumption) rfl (by first | assumption | omega) (by decide) (by rw [hc5 i hi]) dX1_heldBy_5 (q := 6) rfl ?_
  refine v_iload_n h (i := 2) dX1_heldBy_6 (q := 7) rfl rfl rfl ?_
  refine v_iald h (by assumption) rfl (by first | assumption | omega) (by decide) dX1_heldBy_7 (q := 8) rfl ?_
  refine v_istore_n h (i := 3) dX1_heldBy_8 (q := 9) rfl rfl (Nat.le_of_ble_eq_true rfl) rfl ?_
  refine v_iload_n h (i := 3) dX1_heldBy_9 (q := 10) rfl rfl rfl ?_
  refine v_iconst h (v := (-1)) dX1_heldBy_10 (q := 11) rfl (by decide +kernel) ?_
  refine v_icmp_ne h dX1_heldBy_11 (q := 14) rfl (tgt := 23) (by decide) (fun c1 => ?_) (fun c1 => ?_)
  · skip
    have e9 : pb_held sg c i d = sg (c + 3 + i) d := if_neg c1
    refine v_iload_n h (i := 3) dX1_heldBy_23 (q := 24) rfl rfl rfl ?_
    refine v_iret h hQ rfl rfl dX1_heldBy_24 (Nat.zero_le _) (Nat.zero_le _) ⟨by rw [e9], rfl, rfl, rfl, rfl⟩
  · skip
    have e9 : pb_held sg c i d = sg (c + 1) i := if_pos c1
    refine v_aload_n h (i := 0) dX1_heldBy_14 (q := 15) rfl rfl rfl ?_
    refine v_getr h fl_X1_9 (by assumption) rfl (by assumption) dX1_heldBy_15 (q := 18) rfl ?_
    refine v_iload_n h (i := 1) dX1_heldBy_18 (q := 19) rfl rfl rfl ?_
    refine v_iald h (by assumption) rfl (by first | assumption | omega) (by decide) dX1_heldBy_19 (q := 20) rfl ?_
    refine v_goto h dX1_heldBy_20 (tgt := 24) (by decide) ?_
    refine v_iret h hQ rfl rfl dX1_heldBy_24 (Nat.zero_le _) (Nat.zero_le _) ⟨by rw [e9], rfl, rfl, rfl, rfl⟩
set_option maxHeartbeats 4000000 in
set_option maxRecDepth 100000 in
theorem c_X1_lendOut {l : Launch} (hfl : l.stackTraces = false) {sz : Nat} {sk : pb_Sk} {rf : pb_Rf} {sg : pb_Sg} {c i lo hi : Nat} {x : Int32} (hc : pb_crews sk rf c) (hi5 : i < 5) (hlo : lo ≤ hi) (hhi : hi < 400) : pb_Met l mX1_lendOut 1 0 0 [.ref c, .int (nI i), .int x, .int (nI lo), .int (nI hi)] sz sk rf sg (pb_is none sz sk rf (pb_up (pb_fillN sg (c + 3 + i) lo x (hi + 1 - lo)) c 2 ((pb_fillN sg (c + 3 + i) lo x (hi + 1 - lo)) c 2 + nI 1))) := by
  refine pb_start hfl (by decide +kernel) rfl (pb_c1 rfl) (Nat.le_of_ble_eq_true rfl) (fun F hF h hQ => ?_)
  subst hF
  show pv F 0 0 sz sk rf sg 0 [some (.ref c), some (.int (nI i)), some (.int x), some (.int (nI lo)), some (.int (nI hi)), none] []
  obtain ⟨hc0, hc1, hc2, hc3, hc4, hc5, hc6⟩ := id hc
  have hr := hc6 i hi5
  refine v_iload_n h (i := 3) dX1_lendOut_0 (q := 1) rfl rfl rfl ?_
  refine v_istore h dX1_lendOut_1 (q := 3) rfl (Nat.le_of_ble_eq_true rfl) rfl ?_
  have lpb : ∀ (jb ib : Nat), ib + jb = (hi + 1 - lo) → pv F 0 0 sz sk rf (pb_fillN sg (c + 3 + i) lo x ib) 3 [some (.ref c), some (.int (nI i)), some (.int x), some (.int (nI lo)), some (.int (nI hi)), some (.int (nI (lo + ib)))] [] := by
    intro jb
    induction jb with
    | zero =>
      intro ib  hib
      obtain rfl : ib = (hi + 1 - lo) := by omega
      refine v_iload h dX1_lendOut_3 (q := 5) rfl rfl ?_
      refine v_iload h dX1_lendOut_5 (q := 7) rfl rfl ?_
      refine v_icmp_gt h dX1_lendOut_7 (q := 10) rfl (tgt := 26) (by decide) (fun c1 => ?_) (fun c1 => absurd (nI_lt (by omega) (by omega)) c1)
      refine v_aload_n h (i := 0) dX1_lendOut_26 (q := 27) rfl rfl rfl ?_
      refine v_dup h dX1_lendOut_27 (q := 28) rfl rfl ?_
      refine v_geti h fl_X1_20 (by assumption) rfl dX1_lendOut_28 (q := 31) rfl ?_
      refine v_iconst h (v := nI 1) dX1_lendOut_31 (q := 32) rfl (by decide +kernel) ?_
      refine v_iadd h dX1_lendOut_32 (q := 33) rfl ?_
      refine v_puti h fl_X1_20 (by assumption) rfl rfl dX1_lendOut_33 (q := 36) rfl ?_
      refine v_vret h hQ rfl dX1_lendOut_36 (Nat.zero_le _) (Nat.zero_le _) ⟨rfl, rfl, rfl, rfl, rfl⟩
    | succ jb ihb =>
      intro ib  hib
      have hi2b : ib < (hi + 1 - lo) := by omega
      refine v_iload h dX1_lendOut_3 (q := 5) rfl rfl ?_
      refine v_iload h dX1_lendOut_5 (q := 7) rfl rfl ?_
      refine v_icmp_gt h dX1_lendOut_7 (q := 10) rfl (tgt := 26) (by decide) (fun c2 => absurd c2 (nI_nlt (by omega) (by omega))) (fun c2 => ?_)
      refine v_aload_n h (i := 0) dX1_lendOut_10 (q := 11) rfl rfl rfl ?_
      refine v_getr h fl_X1_17 (by assumption) rfl (by assumption) dX1_lendOut_11 (q := 14) rfl ?_
      refine v_iload_n h (i := 1) dX1_lendOut_14 (q := 15) rfl rfl rfl ?_
      refine v_aald5 h (by assumption) rfl (by first | assumption | omega) (by decide) (by rw [hc5 i hi5]) dX1_lendOut_15 (q := 16) rfl ?_
      refine v_iload h dX1_lendOut_16 (q := 18) rfl rfl ?_
      refine v_iload_n h (i := 2) dX1_lendOut_18 (q := 19) rfl rfl rfl ?_
      refine v_iast h (by assumption) rfl (by first | assumption | omega) (by decide) dX1_lendOut_19 (q := 20) rfl ?_
      refine v_iinc h dX1_lendOut_20 (q := 23) rfl rfl pb_inc rfl ?_
      refine v_goto h dX1_lendOut_23 (tgt := 3) (by decide) ?_
      exact ihb (ib + 1) (by omega)
  exact lpb (hi + 1 - lo) 0 (by omega)
set_option maxHeartbeats 4000000 in
set_option maxRecDepth 100000 in
theorem c_J7_fill_53178 {l : Launch} (hfl : l.stackTraces = false) {sz : Nat} {sk : pb_Sk} {rf : pb_Rf} {sg : pb_Sg} {a m : Nat} {x : Int32} (ha : sk a = (1, m)) (hm : m ≤ 100000) : pb_Met l mJ7_fill_53178 1 0 0 [.ref a, .int x] sz sk rf sg (pb_is none sz sk rf (pb_fillN sg a 0 x m)) := by
  refine pb_start hfl (by decide +kernel) rfl (pb_c1 rfl) (Nat.le_of_ble_eq_true rfl) (fun F hF h hQ => ?_)
  subst hF
  show pv F 0 0 sz sk rf sg 0 [some (.ref a), some (.int x), none, none] []
  refine v_iconst h (v := nI 0) dJ7_fill_53178_0 (q := 1) rfl (by decide +kernel) ?_
  refine v_istore_n h (i := 2) dJ7_fill_53178_1 (q := 2) rfl rfl (Nat.le_of_ble_eq_true rfl) rfl ?_
  refine v_aload_n h (i := 0) dJ7_fill_53178_2 (q := 3) rfl rfl rfl ?_
  refine v_alen h (by assumption) (by decide) dJ7_fill_53178_3 (q := 4) rfl ?_
  refine v_istore_n h (i := 3) dJ7_fill_53178_4 (q := 5) rfl rfl (Nat.le_of_ble_eq_true rfl) rfl ?_
  have lp : ∀ (j i : Nat), i + j = m → pv F 0 0 sz sk rf (pb_fillN sg a 0 x i) 5 [some (.ref a), some (.int x), some (.int (nI i)), some (.int (nI m))] [] := by
    intro j
    induction j with
    | zero =>
      intro i  hi
      obtain rfl : i = m := by omega
      refine v_iload_n h (i := 2) dJ7_fill_53178_5 (q := 6) rfl rfl rfl ?_
      refine v_iload_n h (i := 3) dJ7_fill_53178_6 (q := 7) rfl rfl rfl ?_
      refine v_icmp_ge h dJ7_fill_53178_7 (q := 10) rfl (tgt := 20) (by decide) (fun c1 => ?_) (fun c1 => pb_kle (Nat.le_refl _) (by omega) c1)
      refine v_vret h hQ rfl dJ7_fill_53178_20 (Nat.zero_le _) (Nat.zero_le _) ⟨rfl, rfl, rfl, rfl, rfl⟩
    | succ j ih =>
      intro i  hi
      have hi2 : i < m := by omega
      refine v_iload_n h (i := 2) dJ7_fill_53178_5 (q := 6) rfl rfl rfl ?_
      refine v_iload_n h (i := 3) dJ7_fill_53178_6 (q := 7) rfl rfl rfl ?_
      refine v_icmp_ge h dJ7_fill_53178_7 (q := 10) rfl (tgt := 20) (by decide) (fun c2 => pb_kge hi2 (by omega) c2) (fun c2 => ?_)
      refine v_aload_n h (i := 0) dJ7_fill_53178_10 (q := 11) rfl rfl rfl ?_
      refine v_iload_n h (i := 2) dJ7_fill_53178_11 (q := 12) rfl rfl rfl ?_
      refine v_iload_n h (i := 1) dJ7_fill_53178_12 (q := 13) rfl rfl rfl ?_
      refine v_iast h ha (show nI i = nI (0 + i) by rw [Nat.zero_add]) (by omega) (by omega) dJ7_fill_53178_13 (q := 14) rfl ?_
      refine v_iinc h dJ7_fill_53178_14 (q := 17) rfl rfl pb_inc rfl ?_
      refine v_goto h dJ7_fill_53178_17 (tgt := 5) (by decide) ?_
      exact ih (i + 1) (by omega)
  exact lp m 0 (by omega)
def pb_us (x y : Int32) : Int32 := (x.toUInt32 >>> (y.toUInt32 &&& Int32.toUInt32 31)).toInt32
def pb_bc1 (x : Int32) : Int32 := x - (pb_us x (nI 1) &&& 1431655765)
def pb_bc2 (x : Int32) : Int32 := (x &&& 858993459) + (pb_us x (nI 2) &&& 858993459)
def pb_bc3 (x : Int32) : Int32 := (x + pb_us x (nI 4)) &&& 252645135
def pb_bc4 (x : Int32) : Int32 := x + pb_us x (nI 8)
def pb_bc5 (x : Int32) : Int32 := x + pb_us x (nI 16)
def pb_bc (x : Int32) : Int32 := pb_bc5 (pb_bc4 (pb_bc3 (pb_bc2 (pb_bc1 x)))) &&& nI 63
set_option maxHeartbeats 4000000 in
set_option maxRecDepth 100000 in
theorem c_J6_bitCount_0f7a4 {l : Launch} (hfl : l.stackTraces = false) {sz : Nat} {sk : pb_Sk} {rf : pb_Rf} {sg : pb_Sg} {x : Int32} : pb_Met l mJ6_bitCount_0f7a4 1 0 0 [.int x] sz sk rf sg (pb_is (some (.int (pb_bc x))) sz sk rf sg) := by
  refine pb_start hfl (by decide +kernel) rfl (pb_c1 rfl) (Nat.le_of_ble_eq_true rfl) (fun F hF h hQ => ?_)
  subst hF
  show pv F 0 0 sz sk rf sg 0 [some (.int x)] []
  refine v_iload_n h (i := 0) dJ6_bitCount_0f7a4_0 (q := 1) rfl rfl rfl ?_
  refine v_iload_n h (i := 0) dJ6_bitCount_0f7a4_1 (q := 2) rfl rfl rfl ?_
  refine v_iconst h (v := nI 1) dJ6_bitCount_0f7a4_2 (q := 3) rfl (by decide +kernel) ?_
  refine v_iushr h dJ6_bitCount_0f7a4_3 (q := 4) rfl rfl ?_
  refine v_ldcw h dJ6_bitCount_0f7a4_4 (q := 7) rfl tw795 ?_
  refine v_iand h dJ6_bitCount_0f7a4_7 (q := 8) rfl ?_
  refine v_isub h dJ6_bitCount_0f7a4_8 (q := 9) rfl ?_
  refine v_istore_n h (i := 0) dJ6_bitCount_0f7a4_9 (q := 10) rfl rfl (Nat.le_of_ble_eq_true rfl) rfl ?_
  refine v_iload_n h (i := 0) dJ6_bitCount_0f7a4_10 (q := 11) rfl rfl rfl ?_
  refine v_ldcw h dJ6_bitCount_0f7a4_11 (q := 14) rfl tw796 ?_
  refine v_iand h dJ6_bitCount_0f7a4_14 (q := 15) rfl ?_
  refine v_iload_n h (i := 0) dJ6_bitCount_0f7a4_15 (q := 16) rfl rfl rfl ?_
  refine v_iconst h (v := nI 2) dJ6_bitCount_0f7a4_16 (q := 17) rfl (by decide +kernel) ?_
  refine v_iushr h dJ6_bitCount_0f7a4_17 (q := 18) rfl rfl ?_
  refine v_ldcw h dJ6_bitCount_0f7a4_18 (q := 21) rfl tw796 ?_
  refine v_iand h dJ6_bitCount_0f7a4_21 (q := 22) rfl ?_
  refine v_iadd h dJ6_bitCount_0f7a4_22 (q := 23) rfl ?_
  refine v_istore_n h (i := 0) dJ6_bitCount_0f7a4_23 (q := 24) rfl rfl (Nat.le_of_ble_eq_true rfl) rfl ?_
  refine v_iload_n h (i := 0) dJ6_bitCount_0f7a4_24 (q := 25) rfl rfl rfl ?_
  refine v_iload_n h (i := 0) dJ6_bitCount_0f7a4_25 (q := 26) rfl rfl rfl ?_
  refine v_iconst h (v := nI 4) dJ6_bitCount_0f7a4_26 (q := 27) rfl (by decide +kernel) ?_
  refine v_iushr h dJ6_bitCount_0f7a4_27 (q := 28) rfl rfl ?_
  refine v_iadd h dJ6_bitCount_0f7a4_28 (q := 29) rfl ?_
  refine v_ldcw h dJ6_bitCount_0f7a4_29 (q := 32) rfl tw797 ?_
  refine v_iand h dJ6_bitCount_0f7a4_32 (q := 33) rfl ?_
  refine v_istore_n h (i := 0) dJ6_bitCount_0f7a4_33 (q := 34) rfl rfl (Nat.le_of_ble_eq_true rfl) rfl ?_
  refine v_iload_n h (i := 0) dJ6_bitCount_0f7a4_34 (q := 35) rfl rfl rfl ?_
  refine v_iload_n h (i := 0) dJ6_bitCount_0f7a4_35 (q := 36) rfl rfl rfl ?_
  refine v_bipush h (v := nI 8) dJ6_bitCount_0f7a4_36 (q := 38) rfl (by decide +kernel) ?_
  refine v_iushr h dJ6_bitCount_0f7a4_38 (q := 39) rfl rfl ?_
  refine v_iadd h dJ6_bitCount_0f7a4_39 (q := 40) rfl ?_
  refine v_istore_n h (i := 0) dJ6_bitCount_0f7a4_40 (q := 41) rfl rfl (Nat.le_of_ble_eq_true rfl) rfl ?_
  refine v_iload_n h (i := 0) dJ6_bitCount_0f7a4_41 (q := 42) rfl rfl rfl ?_
  refine v_iload_n h (i := 0) dJ6_bitCount_0f7a4_42 (q := 43) rfl rfl rfl ?_
  refine v_bipush h (v := nI 16) dJ6_bitCount_0f7a4_43 (q := 45) rfl (by decide +kernel) ?_
  refine v_iushr h dJ6_bitCount_0f7a4_45 (q := 46) rfl rfl ?_
  refine v_iadd h dJ6_bitCount_0f7a4_46 (q := 47) rfl ?_
  refine v_istore_n h (i := 0) dJ6_bitCount_0f7a4_47 (q := 48) rfl rfl (Nat.le_of_ble_eq_true rfl) rfl ?_
  refine v_iload_n h (i := 0) dJ6_bitCount_0f7a4_48 (q := 49) rfl rfl rfl ?_
  refine v_bipush h (v := nI 63) dJ6_bitCount_0f7a4_49 (q := 51) rfl (by decide +kernel) ?_
  refine v_iand h dJ6_bitCount_0f7a4_51 (q := 52) rfl ?_
  refine v_iret h hQ rfl rfl dJ6_bitCount_0f7a4_52 (Nat.zero_le _) (Nat.zero_le _) ⟨rfl, rfl, rfl, rfl, rfl⟩
def pb_ways (sk : pb_Sk) (rf : pb_Rf) (w : Nat) : Prop := sk w = (12, 0) ∧ rf w 0 = some (w + 1) ∧ rf w 1 = some (w + 2) ∧ sk (w + 1) = (1, 16) ∧ sk (w + 2) = (1, 16)
def pb_mx (x y : Int32) : Int32 := if x < y then y else x
theorem pb_b_or (a b : Bool) : pb_b a ||| pb_b b = pb_b (a || b) := by cases a <;> cases b <;> decide
/-- one need of a task: the memory, and whether one grew -/
def pb_str1 (sg : pb_Sg) (w p t k : Nat) : pb_Sg :=
  let a1 := pb_up sg (w + 2) t (pb_mx (sg (w + 2) t) (sg (w + 2) k + sg (p + 1) k))
  pb_up a1 (w + 1) k (pb_mx (a1 (w + 1) k) (sg (p + 1) k + sg (w + 1) t))
def pb_grw (sg : pb_Sg) (w p t k : Nat) : Bool := decide (sg (w + 2) t < sg (w + 2) k + sg (p + 1) k) || decide (sg (w + 1) k < sg (p + 1) k + sg (w + 1) t)
def pb_strN (sg : pb_Sg) (w p t : Nat) : Nat → pb_Sg × Bool
  | 0 => (sg, false)
  | n + 1 => if pb_in ((pb_strN sg w p t n).1 (p + 4) t) n = true then (pb_str1 (pb_strN sg w p t n).1 w p t n, (pb_strN sg w p t n).2 || pb_grw (pb_strN sg w p t n).1 w p t n) else pb_strN sg w p t n
set_option maxHeartbeats 4000000 in
set_option maxRecDepth 100000 in
theorem c_X6_stretch {l : Launch} (hfl : l.stackTraces = false) {sz : Nat} {sk : pb_Sk} {rf : pb_Rf} {sg : pb_Sg} {w p t : Nat} (hw : pb_ways sk rf w) (hp : pb_plan sk rf p) (ht : t < 16) : pb_Met l mX6_stretch 2 0 0 [.ref w, .ref p, .int (nI t)] sz sk rf sg (pb_is (some (.int (pb_b (pb_strN sg w p t 16).2))) sz sk rf ((pb_strN sg w p t 16).1)) := by
  refine pb_start hfl (by decide +kernel) rfl (pb_c1 rfl) (Nat.le_of_ble_eq_true rfl) (fun F hF h hQ => ?_)
  subst hF
  show pv F 0 0 sz sk rf sg 0 [some (.ref w), some (.ref p), some (.int (nI t)), none, none, none, none] []
  obtain ⟨hw0, hw1, hw2, hw3, hw4⟩ := id hw
  obtain ⟨hp0, hp1, hp2, hp3, hp4, hp5, hp6, hp7, hp8⟩ := id hp
  refine v_iconst h (v := nI 0) dX6_stretch_0 (q := 1) rfl (by decide +kernel) ?_
  refine v_istore_n h (i := 3) dX6_stretch_1 (q := 2) rfl rfl (Nat.le_of_ble_eq_true rfl) rfl ?_
  refine v_iconst h (v := nI 0) dX6_stretch_2 (q := 3) rfl (by decide +kernel) ?_
  refine v_istore h dX6_stretch_3 (q := 5) rfl (Nat.le_of_ble_eq_true rfl) rfl ?_
  have lp : ∀ (j i : Nat), i + j = 16 → pv F 0 0 sz sk rf (pb_strN sg w p t i).1 5 [some (.ref w), some (.ref p), some (.int (nI t)), some (.int (pb_b (pb_strN sg w p t i).2)), some (.int (nI i)), none, none] [] := by
    intro j
    induction j with
    | zero =>
      intro i  hi
      obtain rfl : i = 16 := by omega
      refine v_iload h dX6_stretch_5 (q := 7) rfl rfl ?_
      refine v_bipush h (v := nI 16) dX6_stretch_7 (q := 9) rfl (by decide +kernel) ?_
      refine v_icmp_ge h dX6_stretch_9 (q := 12) rfl (tgt := 132) (by decide) (fun c1 => ?_) (fun c1 => pb_kle (Nat.le_refl _) (by decide) c1)
      refine v_iload_n h (i := 3) dX6_stretch_132 (q := 133) rfl rfl rfl ?_
      refine v_iret h hQ rfl (by first | exact rfl | exact pb_b_nar _) dX6_stretch_133 (Nat.zero_le _) (Nat.zero_le _) ⟨rfl, rfl, rfl, rfl, rfl⟩
    | succ j ih =>
      intro i  hi
      have hi2 : i < 16 := by omega
      refine v_iload h dX6_stretch_5 (q := 7) rfl rfl ?_
      refine v_bipush h (v := nI 16) dX6_stretch_7 (q := 9) rfl (by decide +kernel) ?_
      refine v_icmp_ge h dX6_stretch_9 (q := 12) rfl (tgt := 132) (by decide) (fun c2 => pb_kge hi2 (by decide) c2) (fun c2 => ?_)
      refine v_aload_n h (i := 1) dX6_stretch_12 (q := 13) rfl rfl rfl ?_
      refine v_getr h fl_X6_37 (by assumption) rfl (by assumption) dX6_stretch_13 (q := 16) rfl ?_
      refine v_iload_n h (i := 2) dX6_stretch_16 (q := 17) rfl rfl rfl ?_
      refine v_iald h (by assumption) rfl (by first | assumption | omega) (by decide) dX6_stretch_17 (q := 18) rfl ?_
      refine v_iload h dX6_stretch_18 (q := 20) rfl rfl ?_
      refine v_callSN1 h (c_X7_contains hfl (show i < 32 by omega)) kX7_contains rfl tw617 rfl rfl (by simp [Value.category]) (by decide) (Nat.zero_le _) (Nat.zero_le _) rfl dX6_stretch_20 (q := 23) rfl ?_
      refine v_if_eq h dX6_stretch_23 (q := 26) rfl (tgt := 126) (by decide) (fun c3 => ?_) (fun c3 => ?_)
      · skip
        have e8 := pb_b_0.mp c3
        have e9 : pb_strN sg w p t (i + 1) = (pb_strN sg w p t i) := if_neg (by rw [e8]; decide)
        have h9 := ih (i + 1) (by omega)
        rw [e9] at h9
        refine v_iinc h dX6_stretch_126 (q := 129) rfl rfl pb_inc rfl ?_
        refine v_goto h dX6_stretch_129 (tgt := 5) (by decide) ?_
        refine v_wk (by simp [pb_wk]) h9
      · skip
        have e8 := pb_ne_f (fun q => c3 (pb_b_0.mpr q))
        have e9 : pb_strN sg w p t (i + 1) = (pb_str1 (pb_strN sg w p t i).1 w p t i, (pb_strN sg w p t i).2 || pb_grw (pb_strN sg w p t i).1 w p t i) := if_pos e8
        have h9 := ih (i + 1) (by omega)
        rw [e9] at h9
        refine v_aload_n h (i := 0) dX6_stretch_26 (q := 27) rfl rfl rfl ?_
        refine v_getr h fl_X6_15 (by assumption) rfl (by assumption) dX6_stretch_27 (q := 30) rfl ?_
        refine v_iload h dX6_stretch_30 (q := 32) rfl rfl ?_
        refine v_iald h (by assumption) rfl (by first | assumption | omega) (by decide) dX6_stretch_32 (q := 33) rfl ?_
        refine v_aload_n h (i := 1) dX6_stretch_33 (q := 34) rfl rfl rfl ?_
        refine v_getr h fl_X6_18 (by assumption) rfl (by assumption) dX6_stretch_34 (q := 37) rfl ?_
        refine v_iload h dX6_stretch_37 (q := 39) rfl rfl ?_
        refine v_iald h (by assumption) rfl (by first | assumption | omega) (by decide) dX6_stretch_39 (q := 40) rfl ?_
        refine v_iadd h dX6_stretch_40 (q := 41) rfl ?_
        refine v_istore h dX6_stretch_41 (q := 43) rfl (Nat.le_of_ble_eq_true rfl) rfl ?_
        refine v_aload_n h (i := 1) dX6_stretch_43 (q := 44) rfl rfl rfl ?_
        refine v_getr h fl_X6_18 (by assumption) rfl (by assumption) dX6_stretch_44 (q := 47) rfl ?_
        refine v_iload h dX6_stretch_47 (q := 49) rfl rfl ?_
        refine v_iald h (by assumption) rfl (by first | assumption | omega) (by decide) dX6_stretch_49 (q := 50) rfl ?_
        refine v_aload_n h (i := 0) dX6_stretch_50 (q := 51) rfl rfl rfl ?_
        refine v_getr h fl_X6_9 (by assumption) rfl (by assumption) dX6_stretch_51 (q := 54) rfl ?_
        refine v_iload_n h (i := 2) dX6_stretch_54 (q := 55) rfl rfl rfl ?_
        refine v_iald h (by assumption) rfl (by first | assumption | omega) (by decide) dX6_stretch_55 (q := 56) rfl ?_
        refine v_iadd h dX6_stretch_56 (q := 57) rfl ?_
        refine v_istore h dX6_stretch_57 (q := 59) rfl (Nat.le_of_ble_eq_true rfl) rfl ?_
        refine v_iload_n h (i := 3) dX6_stretch_59 (q := 60) rfl rfl rfl ?_
        refine v_iload h dX6_stretch_60 (q := 62) rfl rfl ?_
        refine v_aload_n h (i := 0) dX6_stretch_62 (q := 63) rfl rfl rfl ?_
        refine v_getr h fl_X6_15 (by assumption) rfl (by assumption) dX6_stretch_63 (q := 66) rfl ?_
        refine v_iload_n h (i := 2) dX6_stretch_66 (q := 67) rfl rfl rfl ?_
        refine v_iald h (by assumption) rfl (by first | assumption | omega) (by decide) dX6_stretch_67 (q := 68) rfl ?_
        refine v_icmp_gt h dX6_stretch_68 (q := 71) rfl (tgt := 83) (by decide) (fun cA => ?_) (fun cA => ?_)
        · skip
          have e7 : pb_b (pb_grw (pb_strN sg w p t i).1 w p t i) = nI 1 := by unfold pb_grw; rw [decide_eq_true cA]; rfl
          refine v_iconst h (v := nI 1) dX6_stretch_83 (q := 84) rfl (by decide +kernel) ?_
          refine v_goto h dX6_stretch_84 (tgt := 88) (by decide) ?_
          rw [← e7]
          refine v_ior h dX6_stretch_88 (q := 89) rfl ?_
          rw [pb_b_or]
          refine v_istore_n h (i := 3) dX6_stretch_89 (q := 90) rfl rfl (Nat.le_of_ble_eq_true rfl) rfl ?_
          refine v_aload_n h (i := 0) dX6_stretch_90 (q := 91) rfl rfl rfl ?_
          refine v_getr h fl_X6_15 (by assumption) rfl (by assumption) dX6_stretch_91 (q := 94) rfl ?_
          refine v_iload_n h (i := 2) dX6_stretch_94 (q := 95) rfl rfl rfl ?_
          refine v_aload_n h (i := 0) dX6_stretch_95 (q := 96) rfl rfl rfl ?_
          refine v_getr h fl_X6_15 (by assumption) rfl (by assumption) dX6_stretch_96 (q := 99) rfl ?_
          refine v_iload_n h (i := 2) dX6_stretch_99 (q := 100) rfl rfl rfl ?_
          refine v_iald h (by assumption) rfl (by first | assumption | omega) (by decide) dX6_stretch_100 (q := 101) rfl ?_
          refine v_iload h dX6_stretch_101 (q := 103) rfl rfl ?_
          refine v_max h tw618 tw619 tw62 tw620 (by decide) (by simp [Value.category]) (Nat.zero_le _) (Nat.zero_le _) rfl dX6_stretch_103 (q := 106) rfl ?_
          refine v_iast h (by assumption) rfl (by first | assumption | omega) (by decide) dX6_stretch_106 (q := 107) rfl ?_
          refine v_aload_n h (i := 0) dX6_stretch_107 (q := 108) rfl rfl rfl ?_
          refine v_getr h fl_X6_9 (by assumption) rfl (by assumption) dX6_stretch_108 (q := 111) rfl ?_
          refine v_iload h dX6_stretch_111 (q := 113) rfl rfl ?_
          refine v_aload_n h (i := 0) dX6_stretch_113 (q := 114) rfl rfl rfl ?_
          refine v_getr h fl_X6_9 (by assumption) rfl (by assumption) dX6_stretch_114 (q := 117) rfl ?_
          refine v_iload h dX6_stretch_117 (q := 119) rfl rfl ?_
          refine v_iald h (by assumption) rfl (by first | assumption | omega) (by decide) dX6_stretch_119 (q := 120) rfl ?_
          refine v_iload h dX6_stretch_120 (q := 122) rfl rfl ?_
          refine v_max h tw618 tw619 tw62 tw620 (by decide) (by simp [Value.category]) (Nat.zero_le _) (Nat.zero_le _) rfl dX6_stretch_122 (q := 125) rfl ?_
          refine v_iast h (by assumption) rfl (by first | assumption | omega) (by decide) dX6_stretch_125 (q := 126) rfl ?_
          refine v_iinc h dX6_stretch_126 (q := 129) rfl rfl pb_inc rfl ?_
          refine v_goto h dX6_stretch_129 (tgt := 5) (by decide) ?_
          refine v_wk (by simp [pb_wk]) h9
        · skip
          refine v_iload h dX6_stretch_71 (q := 73) rfl rfl ?_
          refine v_aload_n h (i := 0) dX6_stretch_73 (q := 74) rfl rfl rfl ?_
          refine v_getr h fl_X6_9 (by assumption) rfl (by assumption) dX6_stretch_74 (q := 77) rfl ?_
          refine v_iload h dX6_stretch_77 (q := 79) rfl rfl ?_
          refine v_iald h (by assumption) rfl (by first | assumption | omega) (by decide) dX6_stretch_79 (q := 80) rfl ?_
          refine v_icmp_le h dX6_stretch_80 (q := 83) rfl (tgt := 87) (by decide) (fun c5 => ?_) (fun c5 => ?_)
          · skip
            have e7 : pb_b (pb_grw (pb_strN sg w p t i).1 w p t i) = nI 0 := by unfold pb_grw; rw [decide_eq_false cA, decide_eq_false (Int32.not_lt.mpr c5)]; rfl
            refine v_iconst h (v := nI 0) dX6_stretch_87 (q := 88) rfl (by decide +kernel) ?_
            rw [← e7]
            refine v_ior h dX6_stretch_88 (q := 89) rfl ?_
            rw [pb_b_or]
            refine v_istore_n h (i := 3) dX6_stretch_89 (q := 90) rfl rfl (Nat.le_of_ble_eq_true rfl) rfl ?_
            refine v_aload_n h (i := 0) dX6_stretch_90 (q := 91) rfl rfl rfl ?_
            refine v_getr h fl_X6_15 (by assumption) rfl (by assumption) dX6_stretch_91 (q := 94) rfl ?_
            refine v_iload_n h (i := 2) dX6_stretch_94 (q := 95) rfl rfl rfl ?_
            refine v_aload_n h (i := 0) dX6_stretch_95 (q := 96) rfl rfl rfl ?_
            refine v_getr h fl_X6_15 (by assumption) rfl (by assumption) dX6_stretch_96 (q := 99) rfl ?_
            refine v_iload_n h (i := 2) dX6_stretch_99 (q := 100) rfl rfl rfl ?_
            refine v_iald h (by assumption) rfl (by first | assumption | omega) (by decide) dX6_stretch_100 (q := 101) rfl ?_
            refine v_iload h dX6_stretch_101 (q := 103) rfl rfl ?_
            refine v_max h tw618 tw619 tw62 tw620 (by decide) (by simp [Value.category]) (Nat.zero_le _) (Nat.zero_le _) rfl dX6_stretch_103 (q := 106) rfl ?_
            refine v_iast h (by assumption) rfl (by first | assumption | omega) (by decide) dX6_stretch_106 (q := 107) rfl ?_
            refine v_aload_n h (i := 0) dX6_stretch_107 (q := 108) rfl rfl rfl ?_
            refine v_getr h fl_X6_9 (by assumption) rfl (by assumption) dX6_stretch_108 (q := 111) rfl ?_
            refine v_iload h dX6_stretch_111 (q := 113) rfl rfl ?_
            refine v_aload_n h (i := 0) dX6_stretch_113 (q := 114) rfl rfl rfl ?_
            refine v_getr h fl_X6_9 (by assumption) rfl (by assumption) dX6_stretch_114 (q := 117) rfl ?_
            refine v_iload h dX6_stretch_117 (q := 119) rfl rfl ?_
            refine v_iald h (by assumption) rfl (by first | assumption | omega) (by decide) dX6_stretch_119 (q := 120) rfl ?_
            refine v_iload h dX6_stretch_120 (q := 122) rfl rfl ?_
            refine v_max h tw618 tw619 tw62 tw620 (by decide) (by simp [Value.category]) (Nat.zero_le _) (Nat.zero_le _) rfl dX6_stretch_122 (q := 125) rfl ?_
            refine v_iast h (by assumption) rfl (by first | assumption | omega) (by decide) dX6_stretch_125 (q := 126) rfl ?_
            refine v_iinc h dX6_stretch_126 (q := 129) rfl rfl pb_inc rfl ?_
            refine v_goto h dX6_stretch_129 (tgt := 5) (by decide) ?_
            refine v_wk (by simp [pb_wk]) h9
          · skip
            have e7 : pb_b (pb_grw (pb_strN sg w p t i).1 w p t i) = nI 1 := by unfold pb_grw; rw [decide_eq_true (Int32.not_le.mp c5), Bool.or_true]; rfl
            refine v_iconst h (v := nI 1) dX6_stretch_83 (q := 84) rfl (by decide +kernel) ?_
            refine v_goto h dX6_stretch_84 (tgt := 88) (by decide) ?_
            rw [← e7]
            refine v_ior h dX6_stretch_88 (q := 89) rfl ?_
            rw [pb_b_or]
            refine v_istore_n h (i := 3) dX6_stretch_89 (q := 90) rfl rfl (Nat.le_of_ble_eq_true rfl) rfl ?_
            refine v_aload_n h (i := 0) dX6_stretch_90 (q := 91) rfl rfl rfl ?_
            refine v_getr h fl_X6_15 (by assumption) rfl (by assumption) dX6_stretch_91 (q := 94) rfl ?_
            refine v_iload_n h (i := 2) dX6_stretch_94 (q := 95) rfl rfl rfl ?_
            refine v_aload_n h (i := 0) dX6_stretch_95 (q := 96) rfl rfl rfl ?_
            refine v_getr h fl_X6_15 (by assumption) rfl (by assumption) dX6_stretch_96 (q := 99) rfl ?_
            refine v_iload_n h (i := 2) dX6_stretch_99 (q := 100) rfl rfl rfl ?_
            refine v_iald h (by assumption) rfl (by first | assumption | omega) (by decide) dX6_stretch_100 (q := 101) rfl ?_
            refine v_iload h dX6_stretch_101 (q := 103) rfl rfl ?_
            refine v_max h tw618 tw619 tw62 tw620 (by decide) (by simp [Value.category]) (Nat.zero_le _) (Nat.zero_le _) rfl dX6_stretch_103 (q := 106) rfl ?_
            refine v_iast h (by assumption) rfl (by first | assumption | omega) (by decide) dX6_stretch_106 (q := 107) rfl ?_
            refine v_aload_n h (i := 0) dX6_stretch_107 (q := 108) rfl rfl rfl ?_
            refine v_getr h fl_X6_9 (by assumption) rfl (by assumption) dX6_stretch_108 (q := 111) rfl ?_
            refine v_iload h dX6_stretch_111 (q := 113) rfl rfl ?_
            refine v_aload_n h (i := 0) dX6_stretch_113 (q := 114) rfl rfl rfl ?_
            refine v_getr h fl_X6_9 (by assumption) rfl (by assumption) dX6_stretch_114 (q := 117) rfl ?_
            refine v_iload h dX6_stretch_117 (q := 119) rfl rfl ?_
            refine v_iald h (by assumption) rfl (by first | assumption | omega) (by decide) dX6_stretch_119 (q := 120) rfl ?_
            refine v_iload h dX6_stretch_120 (q := 122) rfl rfl ?_
            refine v_max h tw618 tw619 tw62 tw620 (by decide) (by simp [Value.category]) (Nat.zero_le _) (Nat.zero_le _) rfl dX6_stretch_122 (q := 125) rfl ?_
            refine v_iast h (by assumption) rfl (by first | assumption | omega) (by decide) dX6_stretch_125 (q := 126) rfl ?_
            refine v_iinc h dX6_stretch_126 (q := 129) rfl rfl pb_inc rfl ?_
            refine v_goto h dX6_stretch_129 (tgt := 5) (by decide) ?_
            refine v_wk (by simp [pb_wk]) h9
  exact lp 16 0 (by omega)
set_option maxHeartbeats 4000000 in
set_option maxRecDepth 100000 in
theorem c_X6_slackOf {l : Launch} (hfl : l.stackTraces = false) {sz : Nat} {sk : pb_Sk} {rf : pb_Rf} {sg : pb_Sg} {w t : Nat} (hw : pb_ways sk rf w) (ht : t < 16) : pb_Met l mX6_slackOf 1 0 0 [.ref w, .int (nI t)] sz sk rf sg (pb_is (some (.int (sg w 2 - sg (w + 2) t - sg (w + 1) t))) sz sk rf sg) := by
  refine pb_start hfl (by decide +kernel) rfl (pb_c1 rfl) (Nat.le_of_ble_eq_true rfl) (fun F hF h hQ => ?_)
  subst hF
  show pv F 0 0 sz sk rf sg 0 [some (.ref w), some (.int (nI t))] []
  obtain ⟨hw0, hw1, hw2, hw3, hw4⟩ := id hw
  refine v_aload_n h (i := 0) dX6_slackOf_0 (q := 1) rfl rfl rfl ?_
  refine v_geti h fl_X6_27 (by assumption) rfl dX6_slackOf_1 (q := 4) rfl ?_
  refine v_aload_n h (i := 0) dX6_slackOf_4 (q := 5) rfl rfl rfl ?_
  refine v_getr h fl_X6_15 (by assumption) rfl (by assumption) dX6_slackOf_5 (q := 8) rfl ?_
  refine v_iload_n h (i := 1) dX6_slackOf_8 (q := 9) rfl rfl rfl ?_
  refine v_iald h (by assumption) rfl (by first | assumption | omega) (by decide) dX6_slackOf_9 (q := 10) rfl ?_
  refine v_isub h dX6_slackOf_10 (q := 11) rfl ?_
  refine v_aload_n h (i := 0) dX6_slackOf_11 (q := 12) rfl rfl rfl ?_
  refine v_getr h fl_X6_9 (by assumption) rfl (by assumption) dX6_slackOf_12 (q := 15) rfl ?_
  refine v_iload_n h (i := 1) dX6_slackOf_15 (q := 16) rfl rfl rfl ?_
  refine v_iald h (by assumption) rfl (by first | assumption | omega) (by decide) dX6_slackOf_16 (q := 17) rfl ?_
  refine v_isub h dX6_slackOf_17 (q := 18) rfl ?_
  refine v_iret h hQ rfl rfl dX6_slackOf_18 (Nat.zero_le _) (Nat.zero_le _) ⟨rfl, rfl, rfl, rfl, rfl⟩
end
section
theorem dX3_join_0 : decode cX3_join 0 = .ok (.aload_n 0, 1) := by decide +kernel
theorem dX3_join_1 : decode cX3_join 1 = .ok (.iconst 0, 1) := by decide +kernel
theorem dX3_join_2 : decode cX3_join 2 = .ok (.putfield 18, 3) := by decide +kernel
theorem dX3_join_5 : decode cX3_join 5 = .ok (.aload_n 0, 1) := by decide +kernel
theorem dX3_join_6 : decode cX3_join 6 = .ok (.iconst 0, 1) := by decide +kernel
theorem dX3_join_7 : decode cX3_join 7 = .ok (.putfield 22, 3) := by decide +kernel
theorem dX3_join_10 : decode cX3_join 10 = .ok (.iconst 0, 1) := by decide +kernel
theorem dX3_join_11 : decode cX3_join 11 = .ok (.istore_n 3, 1) := by decide +kernel
theorem dX3_join_12 : decode cX3_join 12 = .ok (.iload_n 3, 1) := by decide +kernel
theorem dX3_join_13 : decode cX3_join 13 = .ok (.bipush 16, 2) := by decide +kernel
theorem dX3_join_15 : decode cX3_join 15 = .ok (.if_icmp .ge 111, 3) := by decide +kernel
theorem dX3_join_18 : decode cX3_join 18 = .ok (.aload_n 1, 1) := by decide +kernel
theorem dX3_join_19 : decode cX3_join 19 = .ok (.getfield 25, 3) := by decide +kernel
theorem dX3_join_22 : decode cX3_join 22 = .ok (.aload_n 2, 1) := by decide +kernel
theorem dX3_join_23 : decode cX3_join 23 = .ok (.getfield 25, 3) := by decide +kernel
theorem dX3_join_26 : decode cX3_join 26 = .ok (.aload_n 1, 1) := by decide +kernel
theorem dX3_join_27 : decode cX3_join 27 = .ok (.getfield 28, 3) := by decide +kernel
theorem dX3_join_30 : decode cX3_join 30 = .ok (.iload_n 3, 1) := by decide +kernel
theorem dX3_join_31 : decode cX3_join 31 = .ok (.invokestatic 31, 3) := by decide +kernel
theorem dX3_join_34 : decode cX3_join 34 = .ok (.ifCond .eq 69, 3) := by decide +kernel
theorem dX3_join_37 : decode cX3_join 37 = .ok (.aload_n 0, 1) := by decide +kernel
theorem dX3_join_38 : decode cX3_join 38 = .ok (.dup, 1) := by decide +kernel
theorem dX3_join_39 : decode cX3_join 39 = .ok (.getfield 18, 3) := by decide +kernel
theorem dX3_join_42 : decode cX3_join 42 = .ok (.iconst 1, 1) := by decide +kernel
theorem dX3_join_43 : decode cX3_join 43 = .ok (.iload_n 3, 1) := by decide +kernel
theorem dX3_join_44 : decode cX3_join 44 = .ok (.ishl, 1) := by decide +kernel
theorem dX3_join_45 : decode cX3_join 45 = .ok (.ior, 1) := by decide +kernel
theorem dX3_join_46 : decode cX3_join 46 = .ok (.putfield 18, 3) := by decide +kernel
theorem dX3_join_49 : decode cX3_join 49 = .ok (.aload_n 1, 1) := by decide +kernel
theorem dX3_join_50 : decode cX3_join 50 = .ok (.getfield 35, 3) := by decide +kernel
theorem dX3_join_53 : decode cX3_join 53 = .ok (.iload_n 3, 1) := by decide +kernel
theorem dX3_join_54 : decode cX3_join 54 = .ok (.iaload, 1) := by decide +kernel
theorem dX3_join_55 : decode cX3_join 55 = .ok (.iconst (-1), 1) := by decide +kernel
theorem dX3_join_56 : decode cX3_join 56 = .ok (.if_icmp .ne 15, 3) := by decide +kernel
theorem dX3_join_59 : decode cX3_join 59 = .ok (.aload_n 0, 1) := by decide +kernel
theorem dX3_join_60 : decode cX3_join 60 = .ok (.dup, 1) := by decide +kernel
theorem dX3_join_61 : decode cX3_join 61 = .ok (.getfield 22, 3) := by decide +kernel
theorem dX3_join_64 : decode cX3_join 64 = .ok (.iconst 1, 1) := by decide +kernel
theorem dX3_join_65 : decode cX3_join 65 = .ok (.iload_n 3, 1) := by decide +kernel
theorem dX3_join_66 : decode cX3_join 66 = .ok (.ishl, 1) := by decide +kernel
theorem dX3_join_67 : decode cX3_join 67 = .ok (.ior, 1) := by decide +kernel
theorem dX3_join_68 : decode cX3_join 68 = .ok (.putfield 22, 3) := by decide +kernel
theorem dX3_join_71 : decode cX3_join 71 = .ok (.aload_n 0, 1) := by decide +kernel
theorem dX3_join_72 : decode cX3_join 72 = .ok (.getfield 12, 3) := by decide +kernel
theorem dX3_join_75 : decode cX3_join 75 = .ok (.aload_n 1, 1) := by decide +kernel
theorem dX3_join_76 : decode cX3_join 76 = .ok (.getfield 35, 3) := by decide +kernel
theorem dX3_join_79 : decode cX3_join 79 = .ok (.iload_n 3, 1) := by decide +kernel
theorem dX3_join_80 : decode cX3_join 80 = .ok (.iaload, 1) := by decide +kernel
theorem dX3_join_81 : decode cX3_join 81 = .ok (.iconst 1, 1) := by decide +kernel
theorem dX3_join_82 : decode cX3_join 82 = .ok (.if_icmp .ne 10, 3) := by decide +kernel
theorem dX3_join_85 : decode cX3_join 85 = .ok (.aload_n 2, 1) := by decide +kernel
theorem dX3_join_86 : decode cX3_join 86 = .ok (.getfield 25, 3) := by decide +kernel
theorem dX3_join_89 : decode cX3_join 89 = .ok (.goto 7, 3) := by decide +kernel
theorem dX3_join_92 : decode cX3_join 92 = .ok (.aload_n 1, 1) := by decide +kernel
theorem dX3_join_93 : decode cX3_join 93 = .ok (.getfield 25, 3) := by decide +kernel
theorem dX3_join_96 : decode cX3_join 96 = .ok (.iload_n 3, 1) := by decide +kernel
theorem dX3_join_97 : decode cX3_join 97 = .ok (.invokevirtual 39, 3) := by decide +kernel
theorem dX3_join_100 : decode cX3_join 100 = .ok (.goto 20, 3) := by decide +kernel
theorem dX3_join_103 : decode cX3_join 103 = .ok (.aload_n 0, 1) := by decide +kernel
theorem dX3_join_104 : decode cX3_join 104 = .ok (.aload_n 1, 1) := by decide +kernel
theorem dX3_join_105 : decode cX3_join 105 = .ok (.getfield 25, 3) := by decide +kernel
theorem dX3_join_108 : decode cX3_join 108 = .ok (.aload_n 2, 1) := by decide +kernel
theorem dX3_join_109 : decode cX3_join 109 = .ok (.getfield 25, 3) := by decide +kernel
theorem dX3_join_112 : decode cX3_join 112 = .ok (.aload_n 1, 1) := by decide +kernel
theorem dX3_join_113 : decode cX3_join 113 = .ok (.getfield 28, 3) := by decide +kernel
theorem dX3_join_116 : decode cX3_join 116 = .ok (.iload_n 3, 1) := by decide +kernel
theorem dX3_join_117 : decode cX3_join 117 = .ok (.invokevirtual 43, 3) := by decide +kernel
theorem dX3_join_120 : decode cX3_join 120 = .ok (.iinc 3 1, 3) := by decide +kernel
theorem dX3_join_123 : decode cX3_join 123 = .ok (.goto (-111), 3) := by decide +kernel
theorem dX3_join_126 : decode cX3_join 126 = .ok (.return_, 1) := by decide +kernel
theorem dX3_clash_0 : decode cX3_clash 0 = .ok (.aload_n 0, 1) := by decide +kernel
theorem dX3_clash_1 : decode cX3_clash 1 = .ok (.aload_n 2, 1) := by decide +kernel
theorem dX3_clash_2 : decode cX3_clash 2 = .ok (.iload_n 3, 1) := by decide +kernel
theorem dX3_clash_3 : decode cX3_clash 3 = .ok (.invokevirtual 47, 3) := by decide +kernel
theorem dX3_clash_6 : decode cX3_clash 6 = .ok (.ifCond .ne 21, 3) := by decide +kernel
theorem dX3_clash_9 : decode cX3_clash 9 = .ok (.aload_n 1, 1) := by decide +kernel
theorem dX3_clash_10 : decode cX3_clash 10 = .ok (.aload_n 2, 1) := by decide +kernel
theorem dX3_clash_11 : decode cX3_clash 11 = .ok (.iload_n 3, 1) := by decide +kernel
theorem dX3_clash_12 : decode cX3_clash 12 = .ok (.invokevirtual 47, 3) := by decide +kernel
theorem dX3_clash_15 : decode cX3_clash 15 = .ok (.ifCond .ne 12, 3) := by decide +kernel
theorem dX3_clash_18 : decode cX3_clash 18 = .ok (.aload_n 0, 1) := by decide +kernel
theorem dX3_clash_19 : decode cX3_clash 19 = .ok (.aload_n 1, 1) := by decide +kernel
theorem dX3_clash_20 : decode cX3_clash 20 = .ok (.iload_n 3, 1) := by decide +kernel
theorem dX3_clash_21 : decode cX3_clash 21 = .ok (.invokevirtual 47, 3) := by decide +kernel
theorem dX3_clash_24 : decode cX3_clash 24 = .ok (.ifCond .eq 5, 3) := by decide +kernel
theorem dX3_clash_27 : decode cX3_clash 27 = .ok (.iconst 0, 1) := by decide +kernel
theorem dX3_clash_28 : decode cX3_clash 28 = .ok (.ireturn, 1) := by decide +kernel
theorem dX3_clash_29 : decode cX3_clash 29 = .ok (.aload_n 0, 1) := by decide +kernel
theorem dX3_clash_30 : decode cX3_clash 30 = .ok (.iload_n 3, 1) := by decide +kernel
theorem dX3_clash_31 : decode cX3_clash 31 = .ok (.invokevirtual 51, 3) := by decide +kernel
theorem dX3_clash_34 : decode cX3_clash 34 = .ok (.ifCond .eq 19, 3) := by decide +kernel
theorem dX3_clash_37 : decode cX3_clash 37 = .ok (.aload_n 1, 1) := by decide +kernel
theorem dX3_clash_38 : decode cX3_clash 38 = .ok (.iload_n 3, 1) := by decide +kernel
theorem dX3_clash_39 : decode cX3_clash 39 = .ok (.invokevirtual 51, 3) := by decide +kernel
theorem dX3_clash_42 : decode cX3_clash 42 = .ok (.ifCond .eq 11, 3) := by decide +kernel
theorem dX3_clash_45 : decode cX3_clash 45 = .ok (.aload_n 2, 1) := by decide +kernel
theorem dX3_clash_46 : decode cX3_clash 46 = .ok (.iload_n 3, 1) := by decide +kernel
theorem dX3_clash_47 : decode cX3_clash 47 = .ok (.invokevirtual 51, 3) := by decide +kernel
theorem dX3_clash_50 : decode cX3_clash 50 = .ok (.ifCond .ne 5, 3) := by decide +kernel
theorem dX3_clash_53 : decode cX3_clash 53 = .ok (.iconst 1, 1) := by decide +kernel
theorem dX3_clash_54 : decode cX3_clash 54 = .ok (.ireturn, 1) := by decide +kernel
theorem dX3_clash_55 : decode cX3_clash 55 = .ok (.aload_n 0, 1) := by decide +kernel
theorem dX3_clash_56 : decode cX3_clash 56 = .ok (.getfield 55, 3) := by decide +kernel
theorem dX3_clash_59 : decode cX3_clash 59 = .ok (.iload_n 3, 1) := by decide +kernel
theorem dX3_clash_60 : decode cX3_clash 60 = .ok (.iaload, 1) := by decide +kernel
theorem dX3_clash_61 : decode cX3_clash 61 = .ok (.aload_n 1, 1) := by decide +kernel
theorem dX3_clash_62 : decode cX3_clash 62 = .ok (.getfield 55, 3) := by decide +kernel
theorem dX3_clash_65 : decode cX3_clash 65 = .ok (.iload_n 3, 1) := by decide +kernel
theorem dX3_clash_66 : decode cX3_clash 66 = .ok (.iaload, 1) := by decide +kernel
theorem dX3_clash_67 : decode cX3_clash 67 = .ok (.aload_n 2, 1) := by decide +kernel
theorem dX3_clash_68 : decode cX3_clash 68 = .ok (.getfield 55, 3) := by decide +kernel
theorem dX3_clash_71 : decode cX3_clash 71 = .ok (.iload_n 3, 1) := by decide +kernel
theorem dX3_clash_72 : decode cX3_clash 72 = .ok (.iaload, 1) := by decide +kernel
theorem dX3_clash_73 : decode cX3_clash 73 = .ok (.invokestatic 58, 3) := by decide +kernel
theorem dX3_clash_76 : decode cX3_clash 76 = .ok (.ifCond .ne 51, 3) := by decide +kernel
theorem dX3_clash_79 : decode cX3_clash 79 = .ok (.aload_n 0, 1) := by decide +kernel
theorem dX3_clash_80 : decode cX3_clash 80 = .ok (.getfield 62, 3) := by decide +kernel
theorem dX3_clash_83 : decode cX3_clash 83 = .ok (.iload_n 3, 1) := by decide +kernel
theorem dX3_clash_84 : decode cX3_clash 84 = .ok (.iaload, 1) := by decide +kernel
theorem dX3_clash_85 : decode cX3_clash 85 = .ok (.aload_n 1, 1) := by decide +kernel
theorem dX3_clash_86 : decode cX3_clash 86 = .ok (.getfield 62, 3) := by decide +kernel
theorem dX3_clash_89 : decode cX3_clash 89 = .ok (.iload_n 3, 1) := by decide +kernel
theorem dX3_clash_90 : decode cX3_clash 90 = .ok (.iaload, 1) := by decide +kernel
theorem dX3_clash_91 : decode cX3_clash 91 = .ok (.aload_n 2, 1) := by decide +kernel
theorem dX3_clash_92 : decode cX3_clash 92 = .ok (.getfield 62, 3) := by decide +kernel
theorem dX3_clash_95 : decode cX3_clash 95 = .ok (.iload_n 3, 1) := by decide +kernel
theorem dX3_clash_96 : decode cX3_clash 96 = .ok (.iaload, 1) := by decide +kernel
theorem dX3_clash_97 : decode cX3_clash 97 = .ok (.invokestatic 58, 3) := by decide +kernel
theorem dX3_clash_100 : decode cX3_clash 100 = .ok (.ifCond .ne 27, 3) := by decide +kernel
theorem dX3_clash_103 : decode cX3_clash 103 = .ok (.aload_n 0, 1) := by decide +kernel
theorem dX3_clash_104 : decode cX3_clash 104 = .ok (.getfield 65, 3) := by decide +kernel
theorem dX3_clash_107 : decode cX3_clash 107 = .ok (.iload_n 3, 1) := by decide +kernel
theorem dX3_clash_108 : decode cX3_clash 108 = .ok (.iaload, 1) := by decide +kernel
theorem dX3_clash_109 : decode cX3_clash 109 = .ok (.aload_n 1, 1) := by decide +kernel
theorem dX3_clash_110 : decode cX3_clash 110 = .ok (.getfield 65, 3) := by decide +kernel
theorem dX3_clash_113 : decode cX3_clash 113 = .ok (.iload_n 3, 1) := by decide +kernel
theorem dX3_clash_114 : decode cX3_clash 114 = .ok (.iaload, 1) := by decide +kernel
theorem dX3_clash_115 : decode cX3_clash 115 = .ok (.aload_n 2, 1) := by decide +kernel
theorem dX3_clash_116 : decode cX3_clash 116 = .ok (.getfield 65, 3) := by decide +kernel
theorem dX3_clash_119 : decode cX3_clash 119 = .ok (.iload_n 3, 1) := by decide +kernel
theorem dX3_clash_120 : decode cX3_clash 120 = .ok (.iaload, 1) := by decide +kernel
theorem dX3_clash_121 : decode cX3_clash 121 = .ok (.invokestatic 58, 3) := by decide +kernel
theorem dX3_clash_124 : decode cX3_clash 124 = .ok (.ifCond .eq 7, 3) := by decide +kernel
theorem dX3_clash_127 : decode cX3_clash 127 = .ok (.iconst 1, 1) := by decide +kernel
theorem dX3_clash_128 : decode cX3_clash 128 = .ok (.goto 4, 3) := by decide +kernel
theorem dX3_clash_131 : decode cX3_clash 131 = .ok (.iconst 0, 1) := by decide +kernel
theorem dX3_clash_132 : decode cX3_clash 132 = .ok (.ireturn, 1) := by decide +kernel
theorem dX3_apart_0 : decode cX3_apart 0 = .ok (.iload_n 0, 1) := by decide +kernel
theorem dX3_apart_1 : decode cX3_apart 1 = .ok (.iload_n 2, 1) := by decide +kernel
theorem dX3_apart_2 : decode cX3_apart 2 = .ok (.if_icmp .eq 17, 3) := by decide +kernel
theorem dX3_apart_5 : decode cX3_apart 5 = .ok (.iload_n 1, 1) := by decide +kernel
theorem dX3_apart_6 : decode cX3_apart 6 = .ok (.iload_n 2, 1) := by decide +kernel
theorem dX3_apart_7 : decode cX3_apart 7 = .ok (.if_icmp .eq 12, 3) := by decide +kernel
theorem dX3_apart_10 : decode cX3_apart 10 = .ok (.iload_n 0, 1) := by decide +kernel
theorem dX3_apart_11 : decode cX3_apart 11 = .ok (.iload_n 1, 1) := by decide +kernel
theorem dX3_apart_12 : decode cX3_apart 12 = .ok (.if_icmp .eq 7, 3) := by decide +kernel
theorem dX3_apart_15 : decode cX3_apart 15 = .ok (.iconst 1, 1) := by decide +kernel
theorem dX3_apart_16 : decode cX3_apart 16 = .ok (.goto 4, 3) := by decide +kernel
theorem dX3_apart_19 : decode cX3_apart 19 = .ok (.iconst 0, 1) := by decide +kernel
theorem dX3_apart_20 : decode cX3_apart 20 = .ok (.ireturn, 1) := by decide +kernel
theorem dX3_joinTask_0 : decode cX3_joinTask 0 = .ok (.aload_n 1, 1) := by decide +kernel
theorem dX3_joinTask_1 : decode cX3_joinTask 1 = .ok (.aload_n 3, 1) := by decide +kernel
theorem dX3_joinTask_2 : decode cX3_joinTask 2 = .ok (.iload 4, 2) := by decide +kernel
theorem dX3_joinTask_4 : decode cX3_joinTask 4 = .ok (.invokevirtual 47, 3) := by decide +kernel
theorem dX3_joinTask_7 : decode cX3_joinTask 7 = .ok (.ifCond .eq 16, 3) := by decide +kernel
theorem dX3_joinTask_10 : decode cX3_joinTask 10 = .ok (.aload_n 0, 1) := by decide +kernel
theorem dX3_joinTask_11 : decode cX3_joinTask 11 = .ok (.getfield 12, 3) := by decide +kernel
theorem dX3_joinTask_14 : decode cX3_joinTask 14 = .ok (.aload_n 2, 1) := by decide +kernel
theorem dX3_joinTask_15 : decode cX3_joinTask 15 = .ok (.iload 4, 2) := by decide +kernel
theorem dX3_joinTask_17 : decode cX3_joinTask 17 = .ok (.invokevirtual 39, 3) := by decide +kernel
theorem dX3_joinTask_20 : decode cX3_joinTask 20 = .ok (.goto 157, 3) := by decide +kernel
theorem dX3_joinTask_23 : decode cX3_joinTask 23 = .ok (.aload_n 2, 1) := by decide +kernel
theorem dX3_joinTask_24 : decode cX3_joinTask 24 = .ok (.aload_n 3, 1) := by decide +kernel
theorem dX3_joinTask_25 : decode cX3_joinTask 25 = .ok (.iload 4, 2) := by decide +kernel
theorem dX3_joinTask_27 : decode cX3_joinTask 27 = .ok (.invokevirtual 47, 3) := by decide +kernel
theorem dX3_joinTask_30 : decode cX3_joinTask 30 = .ok (.ifCond .ne 13, 3) := by decide +kernel
theorem dX3_joinTask_33 : decode cX3_joinTask 33 = .ok (.aload_n 1, 1) := by decide +kernel
theorem dX3_joinTask_34 : decode cX3_joinTask 34 = .ok (.aload_n 2, 1) := by decide +kernel
theorem dX3_joinTask_35 : decode cX3_joinTask 35 = .ok (.iload 4, 2) := by decide +kernel
theorem dX3_joinTask_37 : decode cX3_joinTask 37 = .ok (.invokevirtual 47, 3) := by decide +kernel
theorem dX3_joinTask_40 : decode cX3_joinTask 40 = .ok (.ifCond .eq 16, 3) := by decide +kernel
theorem dX3_joinTask_43 : decode cX3_joinTask 43 = .ok (.aload_n 0, 1) := by decide +kernel
theorem dX3_joinTask_44 : decode cX3_joinTask 44 = .ok (.getfield 12, 3) := by decide +kernel
theorem dX3_joinTask_47 : decode cX3_joinTask 47 = .ok (.aload_n 1, 1) := by decide +kernel
theorem dX3_joinTask_48 : decode cX3_joinTask 48 = .ok (.iload 4, 2) := by decide +kernel
theorem dX3_joinTask_50 : decode cX3_joinTask 50 = .ok (.invokevirtual 39, 3) := by decide +kernel
theorem dX3_joinTask_53 : decode cX3_joinTask 53 = .ok (.goto 124, 3) := by decide +kernel
theorem dX3_joinTask_56 : decode cX3_joinTask 56 = .ok (.aload_n 1, 1) := by decide +kernel
theorem dX3_joinTask_57 : decode cX3_joinTask 57 = .ok (.getfield 68, 3) := by decide +kernel
theorem dX3_joinTask_60 : decode cX3_joinTask 60 = .ok (.iload 4, 2) := by decide +kernel
theorem dX3_joinTask_62 : decode cX3_joinTask 62 = .ok (.iaload, 1) := by decide +kernel
theorem dX3_joinTask_63 : decode cX3_joinTask 63 = .ok (.aload_n 3, 1) := by decide +kernel
theorem dX3_joinTask_64 : decode cX3_joinTask 64 = .ok (.getfield 68, 3) := by decide +kernel
theorem dX3_joinTask_67 : decode cX3_joinTask 67 = .ok (.iload 4, 2) := by decide +kernel
theorem dX3_joinTask_69 : decode cX3_joinTask 69 = .ok (.iaload, 1) := by decide +kernel
theorem dX3_joinTask_70 : decode cX3_joinTask 70 = .ok (.ixor, 1) := by decide +kernel
theorem dX3_joinTask_71 : decode cX3_joinTask 71 = .ok (.istore 5, 2) := by decide +kernel
theorem dX3_joinTask_73 : decode cX3_joinTask 73 = .ok (.aload_n 0, 1) := by decide +kernel
theorem dX3_joinTask_74 : decode cX3_joinTask 74 = .ok (.getfield 12, 3) := by decide +kernel
theorem dX3_joinTask_77 : decode cX3_joinTask 77 = .ok (.iload 4, 2) := by decide +kernel
theorem dX3_joinTask_79 : decode cX3_joinTask 79 = .ok (.aload_n 1, 1) := by decide +kernel
theorem dX3_joinTask_80 : decode cX3_joinTask 80 = .ok (.getfield 55, 3) := by decide +kernel
theorem dX3_joinTask_83 : decode cX3_joinTask 83 = .ok (.iload 4, 2) := by decide +kernel
theorem dX3_joinTask_85 : decode cX3_joinTask 85 = .ok (.iaload, 1) := by decide +kernel
theorem dX3_joinTask_86 : decode cX3_joinTask 86 = .ok (.aload_n 2, 1) := by decide +kernel
theorem dX3_joinTask_87 : decode cX3_joinTask 87 = .ok (.getfield 55, 3) := by decide +kernel
theorem dX3_joinTask_90 : decode cX3_joinTask 90 = .ok (.iload 4, 2) := by decide +kernel
theorem dX3_joinTask_92 : decode cX3_joinTask 92 = .ok (.iaload, 1) := by decide +kernel
theorem dX3_joinTask_93 : decode cX3_joinTask 93 = .ok (.aload_n 3, 1) := by decide +kernel
theorem dX3_joinTask_94 : decode cX3_joinTask 94 = .ok (.getfield 55, 3) := by decide +kernel
theorem dX3_joinTask_97 : decode cX3_joinTask 97 = .ok (.iload 4, 2) := by decide +kernel
theorem dX3_joinTask_99 : decode cX3_joinTask 99 = .ok (.iaload, 1) := by decide +kernel
theorem dX3_joinTask_100 : decode cX3_joinTask 100 = .ok (.invokestatic 71, 3) := by decide +kernel
theorem dX3_joinTask_103 : decode cX3_joinTask 103 = .ok (.aload_n 1, 1) := by decide +kernel
theorem dX3_joinTask_104 : decode cX3_joinTask 104 = .ok (.getfield 62, 3) := by decide +kernel
theorem dX3_joinTask_107 : decode cX3_joinTask 107 = .ok (.iload 4, 2) := by decide +kernel
theorem dX3_joinTask_109 : decode cX3_joinTask 109 = .ok (.iaload, 1) := by decide +kernel
theorem dX3_joinTask_110 : decode cX3_joinTask 110 = .ok (.aload_n 2, 1) := by decide +kernel
theorem dX3_joinTask_111 : decode cX3_joinTask 111 = .ok (.getfield 62, 3) := by decide +kernel
theorem dX3_joinTask_114 : decode cX3_joinTask 114 = .ok (.iload 4, 2) := by decide +kernel
theorem dX3_joinTask_116 : decode cX3_joinTask 116 = .ok (.iaload, 1) := by decide +kernel
theorem dX3_joinTask_117 : decode cX3_joinTask 117 = .ok (.aload_n 3, 1) := by decide +kernel
theorem dX3_joinTask_118 : decode cX3_joinTask 118 = .ok (.getfield 62, 3) := by decide +kernel
theorem dX3_joinTask_121 : decode cX3_joinTask 121 = .ok (.iload 4, 2) := by decide +kernel
theorem dX3_joinTask_123 : decode cX3_joinTask 123 = .ok (.iaload, 1) := by decide +kernel
theorem dX3_joinTask_124 : decode cX3_joinTask 124 = .ok (.invokestatic 71, 3) := by decide +kernel
theorem dX3_joinTask_127 : decode cX3_joinTask 127 = .ok (.aload_n 1, 1) := by decide +kernel
theorem dX3_joinTask_128 : decode cX3_joinTask 128 = .ok (.getfield 65, 3) := by decide +kernel
theorem dX3_joinTask_131 : decode cX3_joinTask 131 = .ok (.iload 4, 2) := by decide +kernel
theorem dX3_joinTask_133 : decode cX3_joinTask 133 = .ok (.iaload, 1) := by decide +kernel
theorem dX3_joinTask_134 : decode cX3_joinTask 134 = .ok (.aload_n 2, 1) := by decide +kernel
theorem dX3_joinTask_135 : decode cX3_joinTask 135 = .ok (.getfield 65, 3) := by decide +kernel
theorem dX3_joinTask_138 : decode cX3_joinTask 138 = .ok (.iload 4, 2) := by decide +kernel
theorem dX3_joinTask_140 : decode cX3_joinTask 140 = .ok (.iaload, 1) := by decide +kernel
theorem dX3_joinTask_141 : decode cX3_joinTask 141 = .ok (.aload_n 3, 1) := by decide +kernel
theorem dX3_joinTask_142 : decode cX3_joinTask 142 = .ok (.getfield 65, 3) := by decide +kernel
theorem dX3_joinTask_145 : decode cX3_joinTask 145 = .ok (.iload 4, 2) := by decide +kernel
theorem dX3_joinTask_147 : decode cX3_joinTask 147 = .ok (.iaload, 1) := by decide +kernel
theorem dX3_joinTask_148 : decode cX3_joinTask 148 = .ok (.invokestatic 71, 3) := by decide +kernel
theorem dX3_joinTask_151 : decode cX3_joinTask 151 = .ok (.aload_n 1, 1) := by decide +kernel
theorem dX3_joinTask_152 : decode cX3_joinTask 152 = .ok (.getfield 68, 3) := by decide +kernel
theorem dX3_joinTask_155 : decode cX3_joinTask 155 = .ok (.iload 4, 2) := by decide +kernel
theorem dX3_joinTask_157 : decode cX3_joinTask 157 = .ok (.iaload, 1) := by decide +kernel
theorem dX3_joinTask_158 : decode cX3_joinTask 158 = .ok (.iload 5, 2) := by decide +kernel
theorem dX3_joinTask_160 : decode cX3_joinTask 160 = .ok (.iand, 1) := by decide +kernel
theorem dX3_joinTask_161 : decode cX3_joinTask 161 = .ok (.aload_n 2, 1) := by decide +kernel
theorem dX3_joinTask_162 : decode cX3_joinTask 162 = .ok (.getfield 68, 3) := by decide +kernel
theorem dX3_joinTask_165 : decode cX3_joinTask 165 = .ok (.iload 4, 2) := by decide +kernel
theorem dX3_joinTask_167 : decode cX3_joinTask 167 = .ok (.iaload, 1) := by decide +kernel
theorem dX3_joinTask_168 : decode cX3_joinTask 168 = .ok (.iload 5, 2) := by decide +kernel
theorem dX3_joinTask_170 : decode cX3_joinTask 170 = .ok (.iconst (-1), 1) := by decide +kernel
theorem dX3_joinTask_171 : decode cX3_joinTask 171 = .ok (.ixor, 1) := by decide +kernel
theorem dX3_joinTask_172 : decode cX3_joinTask 172 = .ok (.iand, 1) := by decide +kernel
theorem dX3_joinTask_173 : decode cX3_joinTask 173 = .ok (.ior, 1) := by decide +kernel
theorem dX3_joinTask_174 : decode cX3_joinTask 174 = .ok (.invokevirtual 75, 3) := by decide +kernel
theorem dX3_joinTask_177 : decode cX3_joinTask 177 = .ok (.return_, 1) := by decide +kernel
theorem dX3_mixed_0 : decode cX3_mixed 0 = .ok (.iload_n 0, 1) := by decide +kernel
theorem dX3_mixed_1 : decode cX3_mixed 1 = .ok (.iload_n 2, 1) := by decide +kernel
theorem dX3_mixed_2 : decode cX3_mixed 2 = .ok (.if_icmp .ne 7, 3) := by decide +kernel
theorem dX3_mixed_5 : decode cX3_mixed 5 = .ok (.iload_n 1, 1) := by decide +kernel
theorem dX3_mixed_6 : decode cX3_mixed 6 = .ok (.goto 4, 3) := by decide +kernel
theorem dX3_mixed_9 : decode cX3_mixed 9 = .ok (.iload_n 0, 1) := by decide +kernel
theorem dX3_mixed_10 : decode cX3_mixed 10 = .ok (.ireturn, 1) := by decide +kernel
theorem dX0_startFrom_0 : decode cX0_startFrom 0 = .ok (.aload_n 0, 1) := by decide +kernel
theorem dX0_startFrom_1 : decode cX0_startFrom 1 = .ok (.getfield 18, 3) := by decide +kernel
theorem dX0_startFrom_4 : decode cX0_startFrom 4 = .ok (.aload_n 1, 1) := by decide +kernel
theorem dX0_startFrom_5 : decode cX0_startFrom 5 = .ok (.invokevirtual 44, 3) := by decide +kernel
theorem dX0_startFrom_8 : decode cX0_startFrom 8 = .ok (.aload_n 0, 1) := by decide +kernel
theorem dX0_startFrom_9 : decode cX0_startFrom 9 = .ok (.getfield 24, 3) := by decide +kernel
theorem dX0_startFrom_12 : decode cX0_startFrom 12 = .ok (.invokevirtual 48, 3) := by decide +kernel
theorem dX0_startFrom_15 : decode cX0_startFrom 15 = .ok (.aload_n 0, 1) := by decide +kernel
theorem dX0_startFrom_16 : decode cX0_startFrom 16 = .ok (.getfield 28, 3) := by decide +kernel
theorem dX0_startFrom_19 : decode cX0_startFrom 19 = .ok (.iconst (-1), 1) := by decide +kernel
theorem dX0_startFrom_20 : decode cX0_startFrom 20 = .ok (.invokestatic 51, 3) := by decide +kernel
theorem dX0_startFrom_23 : decode cX0_startFrom 23 = .ok (.return_, 1) := by decide +kernel
def pb_wiN (sg : pb_Sg) (w p : Nat) : Nat → pb_Sg
  | 0 => sg
  | n + 1 => pb_up (pb_up (pb_wiN sg w p n) (w + 1) n (pb_wiN sg w p n (p + 1) n)) (w + 2) n (nI 0)
def pb_rdN (sg : pb_Sg) (w p : Nat) : Nat → pb_Sg × Bool
  | 0 => (sg, false)
  | n + 1 => ((pb_strN (pb_rdN sg w p n).1 w p n 16).1, (pb_rdN sg w p n).2 || (pb_strN (pb_rdN sg w p n).1 w p n 16).2)
def pb_rds (w p : Nat) : Nat → pb_Sg → pb_Sg
  | 0, s => s
  | n + 1, s => if (pb_rdN s w p 16).2 = true then pb_rds w p n (pb_rdN s w p 16).1 else (pb_rdN s w p 16).1
def pb_lgN (sg : pb_Sg) (w : Nat) : Nat → pb_Sg
  | 0 => pb_up sg w 2 (nI 0)
  | n + 1 => pb_up (pb_lgN sg w n) w 2 (pb_mx (pb_lgN sg w n w 2) (pb_lgN sg w n (w + 1) n))
def pb_meas (sg : pb_Sg) (w p : Nat) : pb_Sg := pb_lgN (pb_rds w p 16 (pb_wiN sg w p 16)) w 16
set_option maxHeartbeats 4000000 in
set_option maxRecDepth 100000 in
theorem c_X6_measure {l : Launch} (hfl : l.stackTraces = false) {sz : Nat} {sk : pb_Sk} {rf : pb_Rf} {sg : pb_Sg} {w p : Nat} (hw : pb_ways sk rf w) (hp : pb_plan sk rf p) : pb_Met l mX6_measure 3 0 0 [.ref w, .ref p] sz sk rf sg (pb_is none sz sk rf (pb_meas sg w p)) := by
  refine pb_start hfl (by decide +kernel) rfl (pb_c1 rfl) (Nat.le_of_ble_eq_true rfl) (fun F hF h hQ => ?_)
  subst hF
  show pv F 0 0 sz sk rf sg 0 [some (.ref w), some (.ref p), none, none, none] []
  obtain ⟨hw0, hw1, hw2, hw3, hw4⟩ := id hw
  obtain ⟨hp0, hp1, hp2, hp3, hp4, hp5, hp6, hp7, hp8⟩ := id hp
  have tail : pv F 0 0 sz sk rf (pb_rds w p 16 (pb_wiN sg w p 16)) 81 [some (.ref w), some (.ref p), none, none, none] [] := by
    refine v_aload_n h (i := 0) dX6_measure_81 (q := 82) rfl rfl rfl ?_
    refine v_iconst h (v := nI 0) dX6_measure_82 (q := 83) rfl (by decide +kernel) ?_
    refine v_puti h fl_X6_27 (by assumption) rfl rfl dX6_measure_83 (q := 86) rfl ?_
    refine v_iconst h (v := nI 0) dX6_measure_86 (q := 87) rfl (by decide +kernel) ?_
    refine v_istore_n h (i := 3) dX6_measure_87 (q := 88) rfl rfl (Nat.le_of_ble_eq_true rfl) rfl ?_
    have lp : ∀ (j i : Nat), i + j = 16 → pv F 0 0 sz sk rf (pb_lgN (pb_rds w p 16 (pb_wiN sg w p 16)) w i) 88 [some (.ref w), some (.ref p), none, some (.int (nI i)), none] [] := by
      intro j
      induction j with
      | zero =>
        intro i  hi
        obtain rfl : i = 16 := by omega
        refine v_iload_n h (i := 3) dX6_measure_88 (q := 89) rfl rfl rfl ?_
        refine v_bipush h (v := nI 16) dX6_measure_89 (q := 91) rfl (by decide +kernel) ?_
        refine v_icmp_ge h dX6_measure_91 (q := 94) rfl (tgt := 117) (by decide) (fun c1 => ?_) (fun c1 => pb_kle (Nat.le_refl _) (by decide) c1)
        refine v_vret h hQ rfl dX6_measure_117 (Nat.zero_le _) (Nat.zero_le _) ⟨rfl, rfl, rfl, rfl, rfl⟩
      | succ j ih =>
        intro i  hi
        have hi2 : i < 16 := by omega
        refine v_iload_n h (i := 3) dX6_measure_88 (q := 89) rfl rfl rfl ?_
        refine v_bipush h (v := nI 16) dX6_measure_89 (q := 91) rfl (by decide +kernel) ?_
        refine v_icmp_ge h dX6_measure_91 (q := 94) rfl (tgt := 117) (by decide) (fun c2 => pb_kge hi2 (by decide) c2) (fun c2 => ?_)
        refine v_aload_n h (i := 0) dX6_measure_94 (q := 95) rfl rfl rfl ?_
        refine v_aload_n h (i := 0) dX6_measure_95 (q := 96) rfl rfl rfl ?_
        refine v_geti h fl_X6_27 (by assumption) rfl dX6_measure_96 (q := 99) rfl ?_
        refine v_aload_n h (i := 0) dX6_measure_99 (q := 100) rfl rfl rfl ?_
        refine v_getr h fl_X6_9 (by assumption) rfl (by assumption) dX6_measure_100 (q := 103) rfl ?_
        refine v_iload_n h (i := 3) dX6_measure_103 (q := 104) rfl rfl rfl ?_
        refine v_iald h (by assumption) rfl (by first | assumption | omega) (by decide) dX6_measure_104 (q := 105) rfl ?_
        refine v_max h tw618 tw619 tw62 tw620 (by decide) (by simp [Value.category]) (Nat.zero_le _) (Nat.zero_le _) rfl dX6_measure_105 (q := 108) rfl ?_
        refine v_puti h fl_X6_27 (by assumption) rfl rfl dX6_measure_108 (q := 111) rfl ?_
        refine v_iinc h dX6_measure_111 (q := 114) rfl rfl pb_inc rfl ?_
        refine v_goto h dX6_measure_114 (tgt := 88) (by decide) ?_
        exact ih (i + 1) (by omega)
    exact lp 16 0 (by omega)
  refine v_iconst h (v := nI 0) dX6_measure_0 (q := 1) rfl (by decide +kernel) ?_
  refine v_istore_n h (i := 2) dX6_measure_1 (q := 2) rfl rfl (Nat.le_of_ble_eq_true rfl) rfl ?_
  have lp : ∀ (j i : Nat), i + j = 16 → pv F 0 0 sz sk rf (pb_wiN sg w p i) 2 [some (.ref w), some (.ref p), some (.int (nI i)), none, none] [] := by
    intro j
    induction j with
    | zero =>
      intro i  hi
      obtain rfl : i = 16 := by omega
      refine v_iload_n h (i := 2) dX6_measure_2 (q := 3) rfl rfl rfl ?_
      refine v_bipush h (v := nI 16) dX6_measure_3 (q := 5) rfl (by decide +kernel) ?_
      refine v_icmp_ge h dX6_measure_5 (q := 8) rfl (tgt := 33) (by decide) (fun c3 => ?_) (fun c3 => pb_kle (Nat.le_refl _) (by decide) c3)
      refine v_iconst h (v := nI 1) dX6_measure_33 (q := 34) rfl (by decide +kernel) ?_
      refine v_istore_n h (i := 2) dX6_measure_34 (q := 35) rfl rfl (Nat.le_of_ble_eq_true rfl) rfl ?_
      refine v_wk (L' := [some (.ref w), some (.ref p), some (.int (pb_b true)), none, none]) (by simp [pb_wk]; rfl) ?_
      refine v_iconst h (v := nI 0) dX6_measure_35 (q := 36) rfl (by decide +kernel) ?_
      refine v_istore_n h (i := 3) dX6_measure_36 (q := 37) rfl rfl (Nat.le_of_ble_eq_true rfl) rfl ?_
      have lp : ∀ (j i : Nat) (g : Bool) (S : pb_Sg), i + j = 16 → (if g = true then pb_rds w p j S else S) = pb_rds w p 16 (pb_wiN sg w p 16) → pv F 0 0 sz sk rf S 37 [some (.ref w), some (.ref p), some (.int (pb_b g)), some (.int (nI i)), none] [] := by
        intro j
        induction j with
        | zero =>
          intro i g S hi hy0
          obtain rfl : i = 16 := by omega
          refine v_iload_n h (i := 2) dX6_measure_37 (q := 38) rfl rfl rfl ?_
          refine v_if_eq h dX6_measure_38 (q := 41) rfl (tgt := 81) (by decide) (fun c4 => ?_) (fun c4 => ?_)
          · skip
            have e8 := pb_b_0.mp c4
            subst e8
            refine v_cast (sg' := pb_rds w p 16 (pb_wiN sg w p 16)) rfl rfl hy0 (v_wk (by simp [pb_wk]) tail)
          · skip
            have e8 := pb_ne_f (fun q => c4 (pb_b_0.mpr q))
            subst e8
            refine v_iload_n h (i := 3) dX6_measure_41 (q := 42) rfl rfl rfl ?_
            refine v_bipush h (v := nI 16) dX6_measure_42 (q := 44) rfl (by decide +kernel) ?_
            refine v_icmp_ge h dX6_measure_44 (q := 47) rfl (tgt := 81) (by decide) (fun c5 => ?_) (fun c5 => pb_kle (Nat.le_refl _) (by decide) c5)
            exact v_cast (sg' := pb_rds w p 16 (pb_wiN sg w p 16)) rfl rfl hy0 (v_wk (by simp [pb_wk]) tail)
        | succ j ih =>
          intro i g S hi hy0
          have hi2 : i < 16 := by omega
          refine v_iload_n h (i := 2) dX6_measure_37 (q := 38) rfl rfl rfl ?_
          refine v_if_eq h dX6_measure_38 (q := 41) rfl (tgt := 81) (by decide) (fun c6 => ?_) (fun c6 => ?_)
          · skip
            have e8 := pb_b_0.mp c6
            subst e8
            refine v_cast (sg' := pb_rds w p 16 (pb_wiN sg w p 16)) rfl rfl hy0 (v_wk (by simp [pb_wk]) tail)
          · skip
            have e8 := pb_ne_f (fun q => c6 (pb_b_0.mpr q))
            subst e8
            refine v_iload_n h (i := 3) dX6_measure_41 (q := 42) rfl rfl rfl ?_
            refine v_bipush h (v := nI 16) dX6_measure_42 (q := 44) rfl (by decide +kernel) ?_
            refine v_icmp_ge h dX6_measure_44 (q := 47) rfl (tgt := 81) (by decide) (fun c7 => pb_kge hi2 (by decide) c7) (fun c7 => ?_)
            refine v_iconst h (v := nI 0) dX6_measure_47 (q := 48) rfl (by decide +kernel) ?_
            refine v_istore_n h (i := 2) dX6_measure_48 (q := 49) rfl rfl (Nat.le_of_ble_eq_true rfl) rfl ?_
            refine v_iconst h (v := nI 0) dX6_measure_49 (q := 50) rfl (by decide +kernel) ?_
            refine v_istore h dX6_measure_50 (q := 52) rfl (Nat.le_of_ble_eq_true rfl) rfl ?_
            have lpb : ∀ (jb ib : Nat), ib + jb = 16 → pv F 0 0 sz sk rf (pb_rdN S w p ib).1 52 [some (.ref w), some (.ref p), some (.int (pb_b (pb_rdN S w p ib).2)), some (.int (nI i)), some (.int (nI ib))] [] := by
              intro jb
              induction jb with
              | zero =>
                intro ib  hib
                obtain rfl : ib = 16 := by omega
                refine v_iload h dX6_measure_52 (q := 54) rfl rfl ?_
                refine v_bipush h (v := nI 16) dX6_measure_54 (q := 56) rfl (by decide +kernel) ?_
                refine v_icmp_ge h dX6_measure_56 (q := 59) rfl (tgt := 75) (by decide) (fun c8 => ?_) (fun c8 => pb_kle (Nat.le_refl _) (by decide) c8)
                refine v_iinc h dX6_measure_75 (q := 78) rfl rfl pb_inc rfl ?_
                refine v_goto h dX6_measure_78 (tgt := 37) (by decide) ?_
                refine v_wk (by simp [pb_wk]) (ih (i + 1) (pb_rdN S w p 16).2 (pb_rdN S w p 16).1 (by omega) ?_)
                rw [← hy0]
                rfl
              | succ jb ihb =>
                intro ib  hib
                have hi2b : ib < 16 := by omega
                refine v_iload h dX6_measure_52 (q := 54) rfl rfl ?_
                refine v_bipush h (v := nI 16) dX6_measure_54 (q := 56) rfl (by decide +kernel) ?_
                refine v_icmp_ge h dX6_measure_56 (q := 59) rfl (tgt := 75) (by decide) (fun c9 => pb_kge hi2b (by decide) c9) (fun c9 => ?_)
                refine v_iload_n h (i := 2) dX6_measure_59 (q := 60) rfl rfl rfl ?_
                refine v_aload_n h (i := 0) dX6_measure_60 (q := 61) rfl rfl rfl ?_
                refine v_aload_n h (i := 1) dX6_measure_61 (q := 62) rfl rfl rfl ?_
                refine v_iload h dX6_measure_62 (q := 64) rfl rfl ?_
                refine v_callV1 h (c_X6_stretch hfl hw hp hi2b) kX6_stretch tw613 tw5 (by assumption) (by decide) rfl rfl rfl (by simp [Value.category]) (by decide) (Nat.zero_le _) (Nat.zero_le _) rfl dX6_measure_64 (q := 67) rfl ?_
                refine v_ior h dX6_measure_67 (q := 68) rfl ?_
                rw [pb_b_or]
                refine v_istore_n h (i := 2) dX6_measure_68 (q := 69) rfl rfl (Nat.le_of_ble_eq_true rfl) rfl ?_
                refine v_iinc h dX6_measure_69 (q := 72) rfl rfl pb_inc rfl ?_
                refine v_goto h dX6_measure_72 (tgt := 52) (by decide) ?_
                exact ihb (ib + 1) (by omega)
            exact lpb 16 0 (by omega)
      exact lp 16 0 true _ (by omega) rfl
    | succ j ih =>
      intro i  hi
      have hi2 : i < 16 := by omega
      refine v_iload_n h (i := 2) dX6_measure_2 (q := 3) rfl rfl rfl ?_
      refine v_bipush h (v := nI 16) dX6_measure_3 (q := 5) rfl (by decide +kernel) ?_
      refine v_icmp_ge h dX6_measure_5 (q := 8) rfl (tgt := 33) (by decide) (fun c10 => pb_kge hi2 (by decide) c10) (fun c10 => ?_)
      refine v_aload_n h (i := 0) dX6_measure_8 (q := 9) rfl rfl rfl ?_
      refine v_getr h fl_X6_9 (by assumption) rfl (by assumption) dX6_measure_9 (q := 12) rfl ?_
      refine v_iload_n h (i := 2) dX6_measure_12 (q := 13) rfl rfl rfl ?_
      refine v_aload_n h (i := 1) dX6_measure_13 (q := 14) rfl rfl rfl ?_
      refine v_getr h fl_X6_18 (by assumption) rfl (by assumption) dX6_measure_14 (q := 17) rfl ?_
      refine v_iload_n h (i := 2) dX6_measure_17 (q := 18) rfl rfl rfl ?_
      refine v_iald h (by assumption) rfl (by first | assumption | omega) (by decide) dX6_measure_18 (q := 19) rfl ?_
      refine v_iast h (by assumption) rfl (by first | assumption | omega) (by decide) dX6_measure_19 (q := 20) rfl ?_
      refine v_aload_n h (i := 0) dX6_measure_20 (q := 21) rfl rfl rfl ?_
      refine v_getr h fl_X6_15 (by assumption) rfl (by assumption) dX6_measure_21 (q := 24) rfl ?_
      refine v_iload_n h (i := 2) dX6_measure_24 (q := 25) rfl rfl rfl ?_
      refine v_iconst h (v := nI 0) dX6_measure_25 (q := 26) rfl (by decide +kernel) ?_
      refine v_iast h (by assumption) rfl (by first | assumption | omega) (by decide) dX6_measure_26 (q := 27) rfl ?_
      refine v_iinc h dX6_measure_27 (q := 30) rfl rfl pb_inc rfl ?_
      refine v_goto h dX6_measure_30 (tgt := 2) (by decide) ?_
      exact ih (i + 1) (by omega)
  exact lp 16 0 (by omega)
def pb_apt (a o b : Int32) : Bool := decide (¬ a = b ∧ ¬ o = b ∧ ¬ a = o)
def pb_mix (a o b : Int32) : Int32 := if a = b then o else a
def pb_clash (sg : pb_Sg) (p r s t : Nat) : Bool := if (pb_same sg p s t || pb_same sg r s t || pb_same sg p r t) = true then false else if (!pb_has (sg (p + 1)) t || !pb_has (sg (r + 1)) t || !pb_has (sg (s + 1)) t) = true then true else pb_apt (sg (p + 1) t) (sg (r + 1) t) (sg (s + 1) t) || pb_apt (sg (p + 2) t) (sg (r + 2) t) (sg (s + 2) t) || pb_apt (sg (p + 3) t) (sg (r + 3) t) (sg (s + 3) t)
def pb_jm (sg : pb_Sg) (J p r s t : Nat) : pb_Sg := pb_put sg (J + 1) t (pb_mix (sg (p + 1) t) (sg (r + 1) t) (sg (s + 1) t)) (pb_mix (sg (p + 2) t) (sg (r + 2) t) (sg (s + 2) t)) (pb_mix (sg (p + 3) t) (sg (r + 3) t) (sg (s + 3) t)) ((sg (p + 4) t &&& (sg (p + 4) t ^^^ sg (s + 4) t)) ||| (sg (r + 4) t &&& ((sg (p + 4) t ^^^ sg (s + 4) t) ^^^ (-1))))
def pb_jt (sg : pb_Sg) (J p r s t : Nat) : pb_Sg := if pb_same sg p s t = true then pb_take sg (J + 1) r t else if (pb_same sg r s t || pb_same sg p r t) = true then pb_take sg (J + 1) p t else pb_jm sg J p r s t
def pb_joint (sk : pb_Sk) (rf : pb_Rf) (J : Nat) : Prop := sk J = (9, 0) ∧ rf J 0 = some (J + 1) ∧ pb_plan sk rf (J + 1)
def pb_br (sk : pb_Sk) (rf : pb_Rf) (b : Nat) : Prop := sk b = (6, 0) ∧ rf b 2 = some (b + 1) ∧ rf b 3 = some (b + 6) ∧ rf b 4 = some (b + 11) ∧ rf b 5 = some (b + 17) ∧ pb_plan sk rf (b + 1) ∧ pb_plan sk rf (b + 6) ∧ pb_hist sk rf (b + 11) ∧ sk (b + 17) = (1, 16)
def pb_jb (sg : pb_Sg) (J t : Nat) : pb_Sg := pb_up sg J 1 (sg J 1 ||| (nI 1 <<< (nI t &&& 31)))
def pb_jc (sg : pb_Sg) (J t : Nat) : pb_Sg := pb_up (pb_jb sg J t) J 2 ((pb_jb sg J t) J 2 ||| (nI 1 <<< (nI t &&& 31)))
def pb_jna (sg : pb_Sg) (J b t : Nat) : pb_Sg := if pb_jb sg J t (b + 17) t = -1 then pb_jc sg J t else pb_jb sg J t
def pb_jn1 (sg : pb_Sg) (J b f t : Nat) : pb_Sg := if pb_clash sg (b + 1) (f + 1) (b + 6) t = true then (if pb_jna sg J b t (b + 17) t = nI 1 then pb_take (pb_jna sg J b t) (J + 1) (f + 1) t else pb_take (pb_jna sg J b t) (J + 1) (b + 1) t) else pb_jt sg J (b + 1) (f + 1) (b + 6) t
def pb_jnN (sg : pb_Sg) (J b f : Nat) : Nat → pb_Sg
  | 0 => pb_up (pb_up sg J 1 (nI 0)) J 2 (nI 0)
  | n + 1 => pb_jn1 (pb_jnN sg J b f n) J b f n
set_option maxHeartbeats 4000000 in
set_option maxRecDepth 100000 in
theorem c_X3_apart {l : Launch} (hfl : l.stackTraces = false) {sz : Nat} {sk : pb_Sk} {rf : pb_Rf} {sg : pb_Sg} {x y z : Int32} : pb_Met l mX3_apart 1 0 0 [.int x, .int y, .int z] sz sk rf sg (pb_is (some (.int (pb_b (pb_apt x y z)))) sz sk rf sg) := by
  refine pb_start hfl (by decide +kernel) rfl (pb_c1 rfl) (Nat.le_of_ble_eq_true rfl) (fun F hF h hQ => ?_)
  subst hF
  show pv F 0 0 sz sk rf sg 0 [some (.int x), some (.int y), some (.int z)] []
  refine v_iload_n h (i := 0) dX3_apart_0 (q := 1) rfl rfl rfl ?_
  refine v_iload_n h (i := 2) dX3_apart_1 (q := 2) rfl rfl rfl ?_
  refine v_icmp_eq h dX3_apart_2 (q := 5) rfl (tgt := 19) (by decide) (fun c1 => ?_) (fun c1 => ?_)
  · skip
    have e9 : pb_b (pb_apt x y z) = nI 0 := by unfold pb_apt; rw [decide_eq_false (fun q => q.1 c1)]; rfl
    refine v_iconst h (v := nI 0) dX3_apart_19 (q := 20) rfl (by decide +kernel) ?_
    refine v_iret h hQ rfl (by first | exact rfl | exact pb_b_nar _) dX3_apart_20 (Nat.zero_le _) (Nat.zero_le _) ⟨by rw [e9], rfl, rfl, rfl, rfl⟩
  · skip
    refine v_iload_n h (i := 1) dX3_apart_5 (q := 6) rfl rfl rfl ?_
    refine v_iload_n h (i := 2) dX3_apart_6 (q := 7) rfl rfl rfl ?_
    refine v_icmp_eq h dX3_apart_7 (q := 10) rfl (tgt := 19) (by decide) (fun c2 => ?_) (fun c2 => ?_)
    · skip
      have e9 : pb_b (pb_apt x y z) = nI 0 := by unfold pb_apt; rw [decide_eq_false (fun q => q.2.1 c2)]; rfl
      refine v_iconst h (v := nI 0) dX3_apart_19 (q := 20) rfl (by decide +kernel) ?_
      refine v_iret h hQ rfl (by first | exact rfl | exact pb_b_nar _) dX3_apart_20 (Nat.zero_le _) (Nat.zero_le _) ⟨by rw [e9], rfl, rfl, rfl, rfl⟩
    · skip
      refine v_iload_n h (i := 0) dX3_apart_10 (q := 11) rfl rfl rfl ?_
      refine v_iload_n h (i := 1) dX3_apart_11 (q := 12) rfl rfl rfl ?_
      refine v_icmp_eq h dX3_apart_12 (q := 15) rfl (tgt := 19) (by decide) (fun c3 => ?_) (fun c3 => ?_)
      · skip
        have e9 : pb_b (pb_apt x y z) = nI 0 := by unfold pb_apt; rw [decide_eq_false (fun q => q.2.2 c3)]; rfl
        refine v_iconst h (v := nI 0) dX3_apart_19 (q := 20) rfl (by decide +kernel) ?_
        refine v_iret h hQ rfl (by first | exact rfl | exact pb_b_nar _) dX3_apart_20 (Nat.zero_le _) (Nat.zero_le _) ⟨by rw [e9], rfl, rfl, rfl, rfl⟩
      · skip
        have e9 : pb_b (pb_apt x y z) = nI 1 := by unfold pb_apt; rw [decide_eq_true ⟨c1, c2, c3⟩]; rfl
        refine v_iconst h (v := nI 1) dX3_apart_15 (q := 16) rfl (by decide +kernel) ?_
        refine v_goto h dX3_apart_16 (tgt := 20) (by decide) ?_
        refine v_iret h hQ rfl (by first | exact rfl | exact pb_b_nar _) dX3_apart_20 (Nat.zero_le _) (Nat.zero_le _) ⟨by rw [e9], rfl, rfl, rfl, rfl⟩
set_option maxHeartbeats 4000000 in
set_option maxRecDepth 100000 in
theorem c_X3_mixed {l : Launch} (hfl : l.stackTraces = false) {sz : Nat} {sk : pb_Sk} {rf : pb_Rf} {sg : pb_Sg} {x y z : Int32} : pb_Met l mX3_mixed 1 0 0 [.int x, .int y, .int z] sz sk rf sg (pb_is (some (.int (pb_mix x y z))) sz sk rf sg) := by
  refine pb_start hfl (by decide +kernel) rfl (pb_c1 rfl) (Nat.le_of_ble_eq_true rfl) (fun F hF h hQ => ?_)
  subst hF
  show pv F 0 0 sz sk rf sg 0 [some (.int x), some (.int y), some (.int z)] []
  refine v_iload_n h (i := 0) dX3_mixed_0 (q := 1) rfl rfl rfl ?_
  refine v_iload_n h (i := 2) dX3_mixed_1 (q := 2) rfl rfl rfl ?_
  refine v_icmp_ne h dX3_mixed_2 (q := 5) rfl (tgt := 9) (by decide) (fun c1 => ?_) (fun c1 => ?_)
  · skip
    have e9 : pb_mix x y z = x := if_neg c1
    refine v_iload_n h (i := 0) dX3_mixed_9 (q := 10) rfl rfl rfl ?_
    refine v_iret h hQ rfl rfl dX3_mixed_10 (Nat.zero_le _) (Nat.zero_le _) ⟨by rw [e9], rfl, rfl, rfl, rfl⟩
  · skip
    have e9 : pb_mix x y z = y := if_pos c1
    refine v_iload_n h (i := 1) dX3_mixed_5 (q := 6) rfl rfl rfl ?_
    refine v_goto h dX3_mixed_6 (tgt := 10) (by decide) ?_
    refine v_iret h hQ rfl rfl dX3_mixed_10 (Nat.zero_le _) (Nat.zero_le _) ⟨by rw [e9], rfl, rfl, rfl, rfl⟩
set_option maxHeartbeats 4000000 in
set_option maxRecDepth 100000 in
theorem c_X3_clash {l : Launch} (hfl : l.stackTraces = false) {sz : Nat} {sk : pb_Sk} {rf : pb_Rf} {sg : pb_Sg} {p r s t : Nat} (hp : pb_plan sk rf p) (hr : pb_plan sk rf r) (hs : pb_plan sk rf s) (ht : t < 16) : pb_Met l mX3_clash 2 0 0 [.ref p, .ref r, .ref s, .int (nI t)] sz sk rf sg (pb_is (some (.int (pb_b (pb_clash sg p r s t)))) sz sk rf sg) := by
  refine pb_start hfl (by decide +kernel) rfl (pb_c1 rfl) (Nat.le_of_ble_eq_true rfl) (fun F hF h hQ => ?_)
  subst hF
  show pv F 0 0 sz sk rf sg 0 [some (.ref p), some (.ref r), some (.ref s), some (.int (nI t))] []
  obtain ⟨hp0, hp1, hp2, hp3, hp4, hp5, hp6, hp7, hp8⟩ := id hp
  obtain ⟨hr0, hr1, hr2, hr3, hr4, hr5, hr6, hr7, hr8⟩ := id hr
  obtain ⟨hs0, hs1, hs2, hs3, hs4, hs5, hs6, hs7, hs8⟩ := id hs
  refine v_aload_n h (i := 0) dX3_clash_0 (q := 1) rfl rfl rfl ?_
  refine v_aload_n h (i := 2) dX3_clash_1 (q := 2) rfl rfl rfl ?_
  refine v_iload_n h (i := 3) dX3_clash_2 (q := 3) rfl rfl rfl ?_
  refine v_callV1 h (c_X4_same hfl hp hs ht) kX4_same tw564 tw566 (by assumption) (by decide) rfl rfl rfl (by simp [Value.category]) (by decide) (Nat.zero_le _) (Nat.zero_le _) rfl dX3_clash_3 (q := 6) rfl ?_
  refine v_if_ne h dX3_clash_6 (q := 9) rfl (tgt := 27) (by decide) (fun c1 => ?_) (fun c1 => ?_)
  · skip
    have e1 := pb_ne_f (fun q => c1 (pb_b_0.mpr q))
    have e9 : pb_b (pb_clash sg p r s t) = nI 0 := by simp [pb_clash, e1]; rfl
    refine v_iconst h (v := nI 0) dX3_clash_27 (q := 28) rfl (by decide +kernel) ?_
    refine v_iret h hQ rfl (by first | exact rfl | exact pb_b_nar _) dX3_clash_28 (Nat.zero_le _) (Nat.zero_le _) ⟨by rw [e9], rfl, rfl, rfl, rfl⟩
  · skip
    have e1 := pb_b_0.mp c1
    refine v_aload_n h (i := 1) dX3_clash_9 (q := 10) rfl rfl rfl ?_
    refine v_aload_n h (i := 2) dX3_clash_10 (q := 11) rfl rfl rfl ?_
    refine v_iload_n h (i := 3) dX3_clash_11 (q := 12) rfl rfl rfl ?_
    refine v_callV1 h (c_X4_same hfl hr hs ht) kX4_same tw564 tw566 (by assumption) (by decide) rfl rfl rfl (by simp [Value.category]) (by decide) (Nat.zero_le _) (Nat.zero_le _) rfl dX3_clash_12 (q := 15) rfl ?_
    refine v_if_ne h dX3_clash_15 (q := 18) rfl (tgt := 27) (by decide) (fun c2 => ?_) (fun c2 => ?_)
    · skip
      have e2 := pb_ne_f (fun q => c2 (pb_b_0.mpr q))
      have e9 : pb_b (pb_clash sg p r s t) = nI 0 := by simp [pb_clash, e1, e2]; rfl
      refine v_iconst h (v := nI 0) dX3_clash_27 (q := 28) rfl (by decide +kernel) ?_
      refine v_iret h hQ rfl (by first | exact rfl | exact pb_b_nar _) dX3_clash_28 (Nat.zero_le _) (Nat.zero_le _) ⟨by rw [e9], rfl, rfl, rfl, rfl⟩
    · skip
      have e2 := pb_b_0.mp c2
      refine v_aload_n h (i := 0) dX3_clash_18 (q := 19) rfl rfl rfl ?_
      refine v_aload_n h (i := 1) dX3_clash_19 (q := 20) rfl rfl rfl ?_
      refine v_iload_n h (i := 3) dX3_clash_20 (q := 21) rfl rfl rfl ?_
      refine v_callV1 h (c_X4_same hfl hp hr ht) kX4_same tw564 tw566 (by assumption) (by decide) rfl rfl rfl (by simp [Value.category]) (by decide) (Nat.zero_le _) (Nat.zero_le _) rfl dX3_clash_21 (q := 24) rfl ?_
      refine v_if_eq h dX3_clash_24 (q := 27) rfl (tgt := 29) (by decide) (fun c3 => ?_) (fun c3 => ?_)
      · skip
        have e3 := pb_b_0.mp c3
        refine v_aload_n h (i := 0) dX3_clash_29 (q := 30) rfl rfl rfl ?_
        refine v_iload_n h (i := 3) dX3_clash_30 (q := 31) rfl rfl rfl ?_
        refine v_callV1 h (c_X4_has hfl hp ht) kX4_has tw568 tw388 (by assumption) (by decide) rfl rfl rfl (by simp [Value.category]) (by decide) (Nat.zero_le _) (Nat.zero_le _) rfl dX3_clash_31 (q := 34) rfl ?_
        refine v_if_eq h dX3_clash_34 (q := 37) rfl (tgt := 53) (by decide) (fun c4 => ?_) (fun c4 => ?_)
        · skip
          have e4 := pb_b_0.mp c4
          have e9 : pb_b (pb_clash sg p r s t) = nI 1 := by simp [pb_clash, e1, e2, e3, e4]; rfl
          refine v_iconst h (v := nI 1) dX3_clash_53 (q := 54) rfl (by decide +kernel) ?_
          refine v_iret h hQ rfl (by first | exact rfl | exact pb_b_nar _) dX3_clash_54 (Nat.zero_le _) (Nat.zero_le _) ⟨by rw [e9], rfl, rfl, rfl, rfl⟩
        · skip
          have e4 := pb_ne_f (fun q => c4 (pb_b_0.mpr q))
          refine v_aload_n h (i := 1) dX3_clash_37 (q := 38) rfl rfl rfl ?_
          refine v_iload_n h (i := 3) dX3_clash_38 (q := 39) rfl rfl rfl ?_
          refine v_callV1 h (c_X4_has hfl hr ht) kX4_has tw568 tw388 (by assumption) (by decide) rfl rfl rfl (by simp [Value.category]) (by decide) (Nat.zero_le _) (Nat.zero_le _) rfl dX3_clash_39 (q := 42) rfl ?_
          refine v_if_eq h dX3_clash_42 (q := 45) rfl (tgt := 53) (by decide) (fun c5 => ?_) (fun c5 => ?_)
          · skip
            have e5 := pb_b_0.mp c5
            have e9 : pb_b (pb_clash sg p r s t) = nI 1 := by simp [pb_clash, e1, e2, e3, e4, e5]; rfl
            refine v_iconst h (v := nI 1) dX3_clash_53 (q := 54) rfl (by decide +kernel) ?_
            refine v_iret h hQ rfl (by first | exact rfl | exact pb_b_nar _) dX3_clash_54 (Nat.zero_le _) (Nat.zero_le _) ⟨by rw [e9], rfl, rfl, rfl, rfl⟩
          · skip
            have e5 := pb_ne_f (fun q => c5 (pb_b_0.mpr q))
            refine v_aload_n h (i := 2) dX3_clash_45 (q := 46) rfl rfl rfl ?_
            refine v_iload_n h (i := 3) dX3_clash_46 (q := 47) rfl rfl rfl ?_
            refine v_callV1 h (c_X4_has hfl hs ht) kX4_has tw568 tw388 (by assumption) (by decide) rfl rfl rfl (by simp [Value.category]) (by decide) (Nat.zero_le _) (Nat.zero_le _) rfl dX3_clash_47 (q := 50) rfl ?_
            refine v_if_ne h dX3_clash_50 (q := 53) rfl (tgt := 55) (by decide) (fun c6 => ?_) (fun c6 => ?_)
            · skip
              have e6 := pb_ne_f (fun q => c6 (pb_b_0.mpr q))
              refine v_aload_n h (i := 0) dX3_clash_55 (q := 56) rfl rfl rfl ?_
              refine v_getr h fl_X3_55 (by assumption) rfl (by assumption) dX3_clash_56 (q := 59) rfl ?_
              refine v_iload_n h (i := 3) dX3_clash_59 (q := 60) rfl rfl rfl ?_
              refine v_iald h (by assumption) rfl (by first | assumption | omega) (by decide) dX3_clash_60 (q := 61) rfl ?_
              refine v_aload_n h (i := 1) dX3_clash_61 (q := 62) rfl rfl rfl ?_
              refine v_getr h fl_X3_55 (by assumption) rfl (by assumption) dX3_clash_62 (q := 65) rfl ?_
              refine v_iload_n h (i := 3) dX3_clash_65 (q := 66) rfl rfl rfl ?_
              refine v_iald h (by assumption) rfl (by first | assumption | omega) (by decide) dX3_clash_66 (q := 67) rfl ?_
              refine v_aload_n h (i := 2) dX3_clash_67 (q := 68) rfl rfl rfl ?_
              refine v_getr h fl_X3_55 (by assumption) rfl (by assumption) dX3_clash_68 (q := 71) rfl ?_
              refine v_iload_n h (i := 3) dX3_clash_71 (q := 72) rfl rfl rfl ?_
              refine v_iald h (by assumption) rfl (by first | assumption | omega) (by decide) dX3_clash_72 (q := 73) rfl ?_
              refine v_callS1 h (c_X3_apart hfl ) kX3_apart rfl tw569 rfl rfl (by simp [Value.category]) (by decide) (Nat.zero_le _) (Nat.zero_le _) rfl dX3_clash_73 (q := 76) rfl ?_
              refine v_if_ne h dX3_clash_76 (q := 79) rfl (tgt := 127) (by decide) (fun c7 => ?_) (fun c7 => ?_)
              · skip
                have e7 := pb_ne_f (fun q => c7 (pb_b_0.mpr q))
                have e9 : pb_b (pb_clash sg p r s t) = nI 1 := by simp [pb_clash, e1, e2, e3, e4, e5, e6, e7]; rfl
                refine v_iconst h (v := nI 1) dX3_clash_127 (q := 128) rfl (by decide +kernel) ?_
                refine v_goto h dX3_clash_128 (tgt := 132) (by decide) ?_
                refine v_iret h hQ rfl (by first | exact rfl | exact pb_b_nar _) dX3_clash_132 (Nat.zero_le _) (Nat.zero_le _) ⟨by rw [e9], rfl, rfl, rfl, rfl⟩
              · skip
                have e7 := pb_b_0.mp c7
                refine v_aload_n h (i := 0) dX3_clash_79 (q := 80) rfl rfl rfl ?_
                refine v_getr h fl_X3_62 (by assumption) rfl (by assumption) dX3_clash_80 (q := 83) rfl ?_
                refine v_iload_n h (i := 3) dX3_clash_83 (q := 84) rfl rfl rfl ?_
                refine v_iald h (by assumption) rfl (by first | assumption | omega) (by decide) dX3_clash_84 (q := 85) rfl ?_
                refine v_aload_n h (i := 1) dX3_clash_85 (q := 86) rfl rfl rfl ?_
                refine v_getr h fl_X3_62 (by assumption) rfl (by assumption) dX3_clash_86 (q := 89) rfl ?_
                refine v_iload_n h (i := 3) dX3_clash_89 (q := 90) rfl rfl rfl ?_
                refine v_iald h (by assumption) rfl (by first | assumption | omega) (by decide) dX3_clash_90 (q := 91) rfl ?_
                refine v_aload_n h (i := 2) dX3_clash_91 (q := 92) rfl rfl rfl ?_
                refine v_getr h fl_X3_62 (by assumption) rfl (by assumption) dX3_clash_92 (q := 95) rfl ?_
                refine v_iload_n h (i := 3) dX3_clash_95 (q := 96) rfl rfl rfl ?_
                refine v_iald h (by assumption) rfl (by first | assumption | omega) (by decide) dX3_clash_96 (q := 97) rfl ?_
                refine v_callS1 h (c_X3_apart hfl ) kX3_apart rfl tw569 rfl rfl (by simp [Value.category]) (by decide) (Nat.zero_le _) (Nat.zero_le _) rfl dX3_clash_97 (q := 100) rfl ?_
                refine v_if_ne h dX3_clash_100 (q := 103) rfl (tgt := 127) (by decide) (fun c8 => ?_) (fun c8 => ?_)
                · skip
                  have e8 := pb_ne_f (fun q => c8 (pb_b_0.mpr q))
                  have e9 : pb_b (pb_clash sg p r s t) = nI 1 := by simp [pb_clash, e1, e2, e3, e4, e5, e6, e7, e8]; rfl
                  refine v_iconst h (v := nI 1) dX3_clash_127 (q := 128) rfl (by decide +kernel) ?_
                  refine v_goto h dX3_clash_128 (tgt := 132) (by decide) ?_
                  refine v_iret h hQ rfl (by first | exact rfl | exact pb_b_nar _) dX3_clash_132 (Nat.zero_le _) (Nat.zero_le _) ⟨by rw [e9], rfl, rfl, rfl, rfl⟩
                · skip
                  have e8 := pb_b_0.mp c8
                  refine v_aload_n h (i := 0) dX3_clash_103 (q := 104) rfl rfl rfl ?_
                  refine v_getr h fl_X3_65 (by assumption) rfl (by assumption) dX3_clash_104 (q := 107) rfl ?_
                  refine v_iload_n h (i := 3) dX3_clash_107 (q := 108) rfl rfl rfl ?_
                  refine v_iald h (by assumption) rfl (by first | assumption | omega) (by decide) dX3_clash_108 (q := 109) rfl ?_
                  refine v_aload_n h (i := 1) dX3_clash_109 (q := 110) rfl rfl rfl ?_
                  refine v_getr h fl_X3_65 (by assumption) rfl (by assumption) dX3_clash_110 (q := 113) rfl ?_
                  refine v_iload_n h (i := 3) dX3_clash_113 (q := 114) rfl rfl rfl ?_
                  refine v_iald h (by assumption) rfl (by first | assumption | omega) (by decide) dX3_clash_114 (q := 115) rfl ?_
                  refine v_aload_n h (i := 2) dX3_clash_115 (q := 116) rfl rfl rfl ?_
                  refine v_getr h fl_X3_65 (by assumption) rfl (by assumption) dX3_clash_116 (q := 119) rfl ?_
                  refine v_iload_n h (i := 3) dX3_clash_119 (q := 120) rfl rfl rfl ?_
                  refine v_iald h (by assumption) rfl (by first | assumption | omega) (by decide) dX3_clash_120 (q := 121) rfl ?_
                  refine v_callS1 h (c_X3_apart hfl ) kX3_apart rfl tw569 rfl rfl (by simp [Value.category]) (by decide) (Nat.zero_le _) (Nat.zero_le _) rfl dX3_clash_121 (q := 124) rfl ?_
                  refine v_if_eq h dX3_clash_124 (q := 127) rfl (tgt := 131) (by decide) (fun c9 => ?_) (fun c9 => ?_)
                  · skip
                    have ea := pb_b_0.mp c9
                    have e9 : pb_b (pb_clash sg p r s t) = nI 0 := by simp [pb_clash, e1, e2, e3, e4, e5, e6, e7, e8, ea]; rfl
                    refine v_iconst h (v := nI 0) dX3_clash_131 (q := 132) rfl (by decide +kernel) ?_
                    refine v_iret h hQ rfl (by first | exact rfl | exact pb_b_nar _) dX3_clash_132 (Nat.zero_le _) (Nat.zero_le _) ⟨by rw [e9], rfl, rfl, rfl, rfl⟩
                  · skip
                    have ea := pb_ne_f (fun q => c9 (pb_b_0.mpr q))
                    have e9 : pb_b (pb_clash sg p r s t) = nI 1 := by simp [pb_clash, e1, e2, e3, e4, e5, e6, e7, e8, ea]; rfl
                    refine v_iconst h (v := nI 1) dX3_clash_127 (q := 128) rfl (by decide +kernel) ?_
                    refine v_goto h dX3_clash_128 (tgt := 132) (by decide) ?_
                    refine v_iret h hQ rfl (by first | exact rfl | exact pb_b_nar _) dX3_clash_132 (Nat.zero_le _) (Nat.zero_le _) ⟨by rw [e9], rfl, rfl, rfl, rfl⟩
            · skip
              have e6 := pb_b_0.mp c6
              have e9 : pb_b (pb_clash sg p r s t) = nI 1 := by simp [pb_clash, e1, e2, e3, e4, e5, e6]; rfl
              refine v_iconst h (v := nI 1) dX3_clash_53 (q := 54) rfl (by decide +kernel) ?_
              refine v_iret h hQ rfl (by first | exact rfl | exact pb_b_nar _) dX3_clash_54 (Nat.zero_le _) (Nat.zero_le _) ⟨by rw [e9], rfl, rfl, rfl, rfl⟩
      · skip
        have e3 := pb_ne_f (fun q => c3 (pb_b_0.mpr q))
        have e9 : pb_b (pb_clash sg p r s t) = nI 0 := by simp [pb_clash, e1, e2, e3]; rfl
        refine v_iconst h (v := nI 0) dX3_clash_27 (q := 28) rfl (by decide +kernel) ?_
        refine v_iret h hQ rfl (by first | exact rfl | exact pb_b_nar _) dX3_clash_28 (Nat.zero_le _) (Nat.zero_le _) ⟨by rw [e9], rfl, rfl, rfl, rfl⟩
set_option maxHeartbeats 4000000 in
set_option maxRecDepth 100000 in
theorem c_X3_joinTask {l : Launch} (hfl : l.stackTraces = false) {sz : Nat} {sk : pb_Sk} {rf : pb_Rf} {sg : pb_Sg} {J p r s t : Nat} (hj : pb_joint sk rf J) (hp : pb_plan sk rf p) (hr : pb_plan sk rf r) (hs : pb_plan sk rf s) (ht : t < 16) : pb_Met l mX3_joinTask 3 0 0 [.ref J, .ref p, .ref r, .ref s, .int (nI t)] sz sk rf sg (pb_is none sz sk rf (pb_jt sg J p r s t)) := by
  refine pb_start hfl (by decide +kernel) rfl (pb_c1 rfl) (Nat.le_of_ble_eq_true rfl) (fun F hF h hQ => ?_)
  subst hF
  show pv F 0 0 sz sk rf sg 0 [some (.ref J), some (.ref p), some (.ref r), some (.ref s), some (.int (nI t)), none] []
  obtain ⟨hj0, hj1, hj2⟩ := id hj
  obtain ⟨hp0, hp1, hp2, hp3, hp4, hp5, hp6, hp7, hp8⟩ := id hp
  obtain ⟨hr0, hr1, hr2, hr3, hr4, hr5, hr6, hr7, hr8⟩ := id hr
  obtain ⟨hs0, hs1, hs2, hs3, hs4, hs5, hs6, hs7, hs8⟩ := id hs
  have hj3 := hj2.1
  refine v_aload_n h (i := 1) dX3_joinTask_0 (q := 1) rfl rfl rfl ?_
  refine v_aload_n h (i := 3) dX3_joinTask_1 (q := 2) rfl rfl rfl ?_
  refine v_iload h dX3_joinTask_2 (q := 4) rfl rfl ?_
  refine v_callV1 h (c_X4_same hfl hp hs ht) kX4_same tw564 tw566 (by assumption) (by decide) rfl rfl rfl (by simp [Value.category]) (by decide) (Nat.zero_le _) (Nat.zero_le _) rfl dX3_joinTask_4 (q := 7) rfl ?_
  refine v_if_eq h dX3_joinTask_7 (q := 10) rfl (tgt := 23) (by decide) (fun c1 => ?_) (fun c1 => ?_)
  · skip
    have e1 := pb_b_0.mp c1
    refine v_aload_n h (i := 2) dX3_joinTask_23 (q := 24) rfl rfl rfl ?_
    refine v_aload_n h (i := 3) dX3_joinTask_24 (q := 25) rfl rfl rfl ?_
    refine v_iload h dX3_joinTask_25 (q := 27) rfl rfl ?_
    refine v_callV1 h (c_X4_same hfl hr hs ht) kX4_same tw564 tw566 (by assumption) (by decide) rfl rfl rfl (by simp [Value.category]) (by decide) (Nat.zero_le _) (Nat.zero_le _) rfl dX3_joinTask_27 (q := 30) rfl ?_
    refine v_if_ne h dX3_joinTask_30 (q := 33) rfl (tgt := 43) (by decide) (fun c2 => ?_) (fun c2 => ?_)
    · skip
      have e2 := pb_ne_f (fun q => c2 (pb_b_0.mpr q))
      have e9 : pb_jt sg J p r s t = pb_take sg (J + 1) p t := by simp [pb_jt, e1, e2]
      refine v_aload_n h (i := 0) dX3_joinTask_43 (q := 44) rfl rfl rfl ?_
      refine v_getr h fl_X3_12 (by assumption) rfl (by assumption) dX3_joinTask_44 (q := 47) rfl ?_
      refine v_aload_n h (i := 1) dX3_joinTask_47 (q := 48) rfl rfl rfl ?_
      refine v_iload h dX3_joinTask_48 (q := 50) rfl rfl ?_
      refine v_callV0 h (c_X4_take hfl hj2 hp ht) kX4_take tw572 tw521 (by assumption) (by decide) rfl rfl rfl (by simp [Value.category]) (by decide) (Nat.zero_le _) (Nat.zero_le _) rfl dX3_joinTask_50 (q := 53) rfl ?_
      refine v_goto h dX3_joinTask_53 (tgt := 177) (by decide) ?_
      refine v_vret h hQ rfl dX3_joinTask_177 (Nat.zero_le _) (Nat.zero_le _) ⟨rfl, rfl, rfl, rfl, e9.symm⟩
    · skip
      have e2 := pb_b_0.mp c2
      refine v_aload_n h (i := 1) dX3_joinTask_33 (q := 34) rfl rfl rfl ?_
      refine v_aload_n h (i := 2) dX3_joinTask_34 (q := 35) rfl rfl rfl ?_
      refine v_iload h dX3_joinTask_35 (q := 37) rfl rfl ?_
      refine v_callV1 h (c_X4_same hfl hp hr ht) kX4_same tw564 tw566 (by assumption) (by decide) rfl rfl rfl (by simp [Value.category]) (by decide) (Nat.zero_le _) (Nat.zero_le _) rfl dX3_joinTask_37 (q := 40) rfl ?_
      refine v_if_eq h dX3_joinTask_40 (q := 43) rfl (tgt := 56) (by decide) (fun c3 => ?_) (fun c3 => ?_)
      · skip
        have e3 := pb_b_0.mp c3
        have e9 : pb_jt sg J p r s t = pb_jm sg J p r s t := by unfold pb_jt; rw [if_neg (by rw [e1]; decide), if_neg (by rw [e2, e3]; decide)]
        refine v_aload_n h (i := 1) dX3_joinTask_56 (q := 57) rfl rfl rfl ?_
        refine v_getr h fl_X3_68 (by assumption) rfl (by assumption) dX3_joinTask_57 (q := 60) rfl ?_
        refine v_iload h dX3_joinTask_60 (q := 62) rfl rfl ?_
        refine v_iald h (by assumption) rfl (by first | assumption | omega) (by decide) dX3_joinTask_62 (q := 63) rfl ?_
        refine v_aload_n h (i := 3) dX3_joinTask_63 (q := 64) rfl rfl rfl ?_
        refine v_getr h fl_X3_68 (by assumption) rfl (by assumption) dX3_joinTask_64 (q := 67) rfl ?_
        refine v_iload h dX3_joinTask_67 (q := 69) rfl rfl ?_
        refine v_iald h (by assumption) rfl (by first | assumption | omega) (by decide) dX3_joinTask_69 (q := 70) rfl ?_
        refine v_ixor h dX3_joinTask_70 (q := 71) rfl ?_
        refine v_istore h dX3_joinTask_71 (q := 73) rfl (Nat.le_of_ble_eq_true rfl) rfl ?_
        refine v_aload_n h (i := 0) dX3_joinTask_73 (q := 74) rfl rfl rfl ?_
        refine v_getr h fl_X3_12 (by assumption) rfl (by assumption) dX3_joinTask_74 (q := 77) rfl ?_
        refine v_iload h dX3_joinTask_77 (q := 79) rfl rfl ?_
        refine v_aload_n h (i := 1) dX3_joinTask_79 (q := 80) rfl rfl rfl ?_
        refine v_getr h fl_X3_55 (by assumption) rfl (by assumption) dX3_joinTask_80 (q := 83) rfl ?_
        refine v_iload h dX3_joinTask_83 (q := 85) rfl rfl ?_
        refine v_iald h (by assumption) rfl (by first | assumption | omega) (by decide) dX3_joinTask_85 (q := 86) rfl ?_
        refine v_aload_n h (i := 2) dX3_joinTask_86 (q := 87) rfl rfl rfl ?_
        refine v_getr h fl_X3_55 (by assumption) rfl (by assumption) dX3_joinTask_87 (q := 90) rfl ?_
        refine v_iload h dX3_joinTask_90 (q := 92) rfl rfl ?_
        refine v_iald h (by assumption) rfl (by first | assumption | omega) (by decide) dX3_joinTask_92 (q := 93) rfl ?_
        refine v_aload_n h (i := 3) dX3_joinTask_93 (q := 94) rfl rfl rfl ?_
        refine v_getr h fl_X3_55 (by assumption) rfl (by assumption) dX3_joinTask_94 (q := 97) rfl ?_
        refine v_iload h dX3_joinTask_97 (q := 99) rfl rfl ?_
        refine v_iald h (by assumption) rfl (by first | assumption | omega) (by decide) dX3_joinTask_99 (q := 100) rfl ?_
        refine v_callS1 h (c_X3_mixed hfl ) kX3_mixed rfl tw577 rfl rfl (by simp [Value.category]) (by decide) (Nat.zero_le _) (Nat.zero_le _) rfl dX3_joinTask_100 (q := 103) rfl ?_
        refine v_aload_n h (i := 1) dX3_joinTask_103 (q := 104) rfl rfl rfl ?_
        refine v_getr h fl_X3_62 (by assumption) rfl (by assumption) dX3_joinTask_104 (q := 107) rfl ?_
        refine v_iload h dX3_joinTask_107 (q := 109) rfl rfl ?_
        refine v_iald h (by assumption) rfl (by first | assumption | omega) (by decide) dX3_joinTask_109 (q := 110) rfl ?_
        refine v_aload_n h (i := 2) dX3_joinTask_110 (q := 111) rfl rfl rfl ?_
        refine v_getr h fl_X3_62 (by assumption) rfl (by assumption) dX3_joinTask_111 (q := 114) rfl ?_
        refine v_iload h dX3_joinTask_114 (q := 116) rfl rfl ?_
        refine v_iald h (by assumption) rfl (by first | assumption | omega) (by decide) dX3_joinTask_116 (q := 117) rfl ?_
        refine v_aload_n h (i := 3) dX3_joinTask_117 (q := 118) rfl rfl rfl ?_
        refine v_getr h fl_X3_62 (by assumption) rfl (by assumption) dX3_joinTask_118 (q := 121) rfl ?_
        refine v_iload h dX3_joinTask_121 (q := 123) rfl rfl ?_
        refine v_iald h (by assumption) rfl (by first | assumption | omega) (by decide) dX3_joinTask_123 (q := 124) rfl ?_
        refine v_callS1 h (c_X3_mixed hfl ) kX3_mixed rfl tw577 rfl rfl (by simp [Value.category]) (by decide) (Nat.zero_le _) (Nat.zero_le _) rfl dX3_joinTask_124 (q := 127) rfl ?_
        refine v_aload_n h (i := 1) dX3_joinTask_127 (q := 128) rfl rfl rfl ?_
        refine v_getr h fl_X3_65 (by assumption) rfl (by assumption) dX3_joinTask_128 (q := 131) rfl ?_
        refine v_iload h dX3_joinTask_131 (q := 133) rfl rfl ?_
        refine v_iald h (by assumption) rfl (by first | assumption | omega) (by decide) dX3_joinTask_133 (q := 134) rfl ?_
        refine v_aload_n h (i := 2) dX3_joinTask_134 (q := 135) rfl rfl rfl ?_
        refine v_getr h fl_X3_65 (by assumption) rfl (by assumption) dX3_joinTask_135 (q := 138) rfl ?_
        refine v_iload h dX3_joinTask_138 (q := 140) rfl rfl ?_
        refine v_iald h (by assumption) rfl (by first | assumption | omega) (by decide) dX3_joinTask_140 (q := 141) rfl ?_
        refine v_aload_n h (i := 3) dX3_joinTask_141 (q := 142) rfl rfl rfl ?_
        refine v_getr h fl_X3_65 (by assumption) rfl (by assumption) dX3_joinTask_142 (q := 145) rfl ?_
        refine v_iload h dX3_joinTask_145 (q := 147) rfl rfl ?_
        refine v_iald h (by assumption) rfl (by first | assumption | omega) (by decide) dX3_joinTask_147 (q := 148) rfl ?_
        refine v_callS1 h (c_X3_mixed hfl ) kX3_mixed rfl tw577 rfl rfl (by simp [Value.category]) (by decide) (Nat.zero_le _) (Nat.zero_le _) rfl dX3_joinTask_148 (q := 151) rfl ?_
        refine v_aload_n h (i := 1) dX3_joinTask_151 (q := 152) rfl rfl rfl ?_
        refine v_getr h fl_X3_68 (by assumption) rfl (by assumption) dX3_joinTask_152 (q := 155) rfl ?_
        refine v_iload h dX3_joinTask_155 (q := 157) rfl rfl ?_
        refine v_iald h (by assumption) rfl (by first | assumption | omega) (by decide) dX3_joinTask_157 (q := 158) rfl ?_
        refine v_iload h dX3_joinTask_158 (q := 160) rfl rfl ?_
        refine v_iand h dX3_joinTask_160 (q := 161) rfl ?_
        refine v_aload_n h (i := 2) dX3_joinTask_161 (q := 162) rfl rfl rfl ?_
        refine v_getr h fl_X3_68 (by assumption) rfl (by assumption) dX3_joinTask_162 (q := 165) rfl ?_
        refine v_iload h dX3_joinTask_165 (q := 167) rfl rfl ?_
        refine v_iald h (by assumption) rfl (by first | assumption | omega) (by decide) dX3_joinTask_167 (q := 168) rfl ?_
        refine v_iload h dX3_joinTask_168 (q := 170) rfl rfl ?_
        refine v_iconst h (v := (-1)) dX3_joinTask_170 (q := 171) rfl (by decide +kernel) ?_
        refine v_ixor h dX3_joinTask_171 (q := 172) rfl ?_
        refine v_iand h dX3_joinTask_172 (q := 173) rfl ?_
        refine v_ior h dX3_joinTask_173 (q := 174) rfl ?_
        refine v_callV0 h (c_X4_put hfl hj2 ht) kX4_put tw580 tw396 (by assumption) (by decide) rfl rfl rfl (by simp [Value.category]) (by decide) (Nat.zero_le _) (Nat.zero_le _) rfl dX3_joinTask_174 (q := 177) rfl ?_
        refine v_vret h hQ rfl dX3_joinTask_177 (Nat.zero_le _) (Nat.zero_le _) ⟨rfl, rfl, rfl, rfl, e9.symm⟩
      · skip
        have e3 := pb_ne_f (fun q => c3 (pb_b_0.mpr q))
        have e9 : pb_jt sg J p r s t = pb_take sg (J + 1) p t := by simp [pb_jt, e1, e3]
        refine v_aload_n h (i := 0) dX3_joinTask_43 (q := 44) rfl rfl rfl ?_
        refine v_getr h fl_X3_12 (by assumption) rfl (by assumption) dX3_joinTask_44 (q := 47) rfl ?_
        refine v_aload_n h (i := 1) dX3_joinTask_47 (q := 48) rfl rfl rfl ?_
        refine v_iload h dX3_joinTask_48 (q := 50) rfl rfl ?_
        refine v_callV0 h (c_X4_take hfl hj2 hp ht) kX4_take tw572 tw521 (by assumption) (by decide) rfl rfl rfl (by simp [Value.category]) (by decide) (Nat.zero_le _) (Nat.zero_le _) rfl dX3_joinTask_50 (q := 53) rfl ?_
        refine v_goto h dX3_joinTask_53 (tgt := 177) (by decide) ?_
        refine v_vret h hQ rfl dX3_joinTask_177 (Nat.zero_le _) (Nat.zero_le _) ⟨rfl, rfl, rfl, rfl, e9.symm⟩
  · skip
    have e1 := pb_ne_f (fun q => c1 (pb_b_0.mpr q))
    have e9 : pb_jt sg J p r s t = pb_take sg (J + 1) r t := if_pos e1
    refine v_aload_n h (i := 0) dX3_joinTask_10 (q := 11) rfl rfl rfl ?_
    refine v_getr h fl_X3_12 (by assumption) rfl (by assumption) dX3_joinTask_11 (q := 14) rfl ?_
    refine v_aload_n h (i := 2) dX3_joinTask_14 (q := 15) rfl rfl rfl ?_
    refine v_iload h dX3_joinTask_15 (q := 17) rfl rfl ?_
    refine v_callV0 h (c_X4_take hfl hj2 hr ht) kX4_take tw572 tw521 (by assumption) (by decide) rfl rfl rfl (by simp [Value.category]) (by decide) (Nat.zero_le _) (Nat.zero_le _) rfl dX3_joinTask_17 (q := 20) rfl ?_
    refine v_goto h dX3_joinTask_20 (tgt := 177) (by decide) ?_
    refine v_vret h hQ rfl dX3_joinTask_177 (Nat.zero_le _) (Nat.zero_le _) ⟨rfl, rfl, rfl, rfl, e9.symm⟩
set_option maxHeartbeats 4000000 in
set_option maxRecDepth 100000 in
theorem c_X3_join {l : Launch} (hfl : l.stackTraces = false) {sz : Nat} {sk : pb_Sk} {rf : pb_Rf} {sg : pb_Sg} {J b f : Nat} (hj : pb_joint sk rf J) (hb : pb_br sk rf b) (hf : pb_br sk rf f) : pb_Met l mX3_join 4 0 0 [.ref J, .ref b, .ref f] sz sk rf sg (pb_is none sz sk rf (pb_jnN sg J b f 16)) := by
  refine pb_start hfl (by decide +kernel) rfl (pb_c1 rfl) (Nat.le_of_ble_eq_true rfl) (fun F hF h hQ => ?_)
  subst hF
  show pv F 0 0 sz sk rf sg 0 [some (.ref J), some (.ref b), some (.ref f), none] []
  obtain ⟨hj0, hj1, hj2⟩ := id hj
  obtain ⟨hb0, hb1, hb2, hb3, hb4, hb5, hb6, hb7, hb8⟩ := id hb
  obtain ⟨hf0, hf1, hf2, hf3, hf4, hf5, hf6, hf7, hf8⟩ := id hf
  have hj3 := hj2.1
  refine v_aload_n h (i := 0) dX3_join_0 (q := 1) rfl rfl rfl ?_
  refine v_iconst h (v := nI 0) dX3_join_1 (q := 2) rfl (by decide +kernel) ?_
  refine v_puti h fl_X3_18 (by assumption) rfl rfl dX3_join_2 (q := 5) rfl ?_
  refine v_aload_n h (i := 0) dX3_join_5 (q := 6) rfl rfl rfl ?_
  refine v_iconst h (v := nI 0) dX3_join_6 (q := 7) rfl (by decide +kernel) ?_
  refine v_puti h fl_X3_22 (by assumption) rfl rfl dX3_join_7 (q := 10) rfl ?_
  refine v_iconst h (v := nI 0) dX3_join_10 (q := 11) rfl (by decide +kernel) ?_
  refine v_istore_n h (i := 3) dX3_join_11 (q := 12) rfl rfl (Nat.le_of_ble_eq_true rfl) rfl ?_
  have lp : ∀ (j i : Nat), i + j = 16 → pv F 0 0 sz sk rf (pb_jnN sg J b f i) 12 [some (.ref J), some (.ref b), some (.ref f), some (.int (nI i))] [] := by
    intro j
    induction j with
    | zero =>
      intro i  hi
      obtain rfl : i = 16 := by omega
      refine v_iload_n h (i := 3) dX3_join_12 (q := 13) rfl rfl rfl ?_
      refine v_bipush h (v := nI 16) dX3_join_13 (q := 15) rfl (by decide +kernel) ?_
      refine v_icmp_ge h dX3_join_15 (q := 18) rfl (tgt := 126) (by decide) (fun c1 => ?_) (fun c1 => pb_kle (Nat.le_refl _) (by decide) c1)
      refine v_vret h hQ rfl dX3_join_126 (Nat.zero_le _) (Nat.zero_le _) ⟨rfl, rfl, rfl, rfl, rfl⟩
    | succ j ih =>
      intro i  hi
      have hi2 : i < 16 := by omega
      refine v_iload_n h (i := 3) dX3_join_12 (q := 13) rfl rfl rfl ?_
      refine v_bipush h (v := nI 16) dX3_join_13 (q := 15) rfl (by decide +kernel) ?_
      refine v_icmp_ge h dX3_join_15 (q := 18) rfl (tgt := 126) (by decide) (fun c2 => pb_kge hi2 (by decide) c2) (fun c2 => ?_)
      refine v_aload_n h (i := 1) dX3_join_18 (q := 19) rfl rfl rfl ?_
      refine v_getr h fl_X3_25 (by assumption) rfl (by assumption) dX3_join_19 (q := 22) rfl ?_
      refine v_aload_n h (i := 2) dX3_join_22 (q := 23) rfl rfl rfl ?_
      refine v_getr h fl_X3_25 (by assumption) rfl (by assumption) dX3_join_23 (q := 26) rfl ?_
      refine v_aload_n h (i := 1) dX3_join_26 (q := 27) rfl rfl rfl ?_
      refine v_getr h fl_X3_28 (by assumption) rfl (by assumption) dX3_join_27 (q := 30) rfl ?_
      refine v_iload_n h (i := 3) dX3_join_30 (q := 31) rfl rfl rfl ?_
      refine v_callS1 h (c_X3_clash hfl hb5 hf5 hb6 hi2) kX3_clash rfl tw561 rfl rfl (by simp [Value.category]) (by decide) (Nat.zero_le _) (Nat.zero_le _) rfl dX3_join_31 (q := 34) rfl ?_
      refine v_if_eq h dX3_join_34 (q := 37) rfl (tgt := 103) (by decide) (fun c3 => ?_) (fun c3 => ?_)
      · skip
        have e8 := pb_b_0.mp c3
        have e9 : pb_jn1 (pb_jnN sg J b f i) J b f i = pb_jt (pb_jnN sg J b f i) J (b + 1) (f + 1) (b + 6) i := if_neg (by rw [e8]; decide)
        refine v_aload_n h (i := 0) dX3_join_103 (q := 104) rfl rfl rfl ?_
        refine v_aload_n h (i := 1) dX3_join_104 (q := 105) rfl rfl rfl ?_
        refine v_getr h fl_X3_25 (by assumption) rfl (by assumption) dX3_join_105 (q := 108) rfl ?_
        refine v_aload_n h (i := 2) dX3_join_108 (q := 109) rfl rfl rfl ?_
        refine v_getr h fl_X3_25 (by assumption) rfl (by assumption) dX3_join_109 (q := 112) rfl ?_
        refine v_aload_n h (i := 1) dX3_join_112 (q := 113) rfl rfl rfl ?_
        refine v_getr h fl_X3_28 (by assumption) rfl (by assumption) dX3_join_113 (q := 116) rfl ?_
        refine v_iload_n h (i := 3) dX3_join_116 (q := 117) rfl rfl rfl ?_
        refine v_callV0 h (c_X3_joinTask hfl hj hb5 hf5 hb6 hi2) kX3_joinTask tw573 tw2 (by assumption) (by decide) rfl rfl rfl (by simp [Value.category]) (by decide) (Nat.zero_le _) (Nat.zero_le _) rfl dX3_join_117 (q := 120) rfl ?_
        refine v_iinc h dX3_join_120 (q := 123) rfl rfl pb_inc rfl ?_
        refine v_goto h dX3_join_123 (tgt := 12) (by decide) ?_
        have h9 := ih (i + 1) (by omega)
        rw [show pb_jnN sg J b f (i + 1) = pb_jn1 (pb_jnN sg J b f i) J b f i from rfl, e9] at h9
        exact h9
      · skip
        have e8 := pb_ne_f (fun q => c3 (pb_b_0.mpr q))
        refine v_aload_n h (i := 0) dX3_join_37 (q := 38) rfl rfl rfl ?_
        refine v_dup h dX3_join_38 (q := 39) rfl rfl ?_
        refine v_geti h fl_X3_18 (by assumption) rfl dX3_join_39 (q := 42) rfl ?_
        refine v_iconst h (v := nI 1) dX3_join_42 (q := 43) rfl (by decide +kernel) ?_
        refine v_iload_n h (i := 3) dX3_join_43 (q := 44) rfl rfl rfl ?_
        refine v_ishl h dX3_join_44 (q := 45) rfl ?_
        refine v_ior h dX3_join_45 (q := 46) rfl ?_
        refine v_puti h fl_X3_18 (by assumption) rfl rfl dX3_join_46 (q := 49) rfl ?_
        refine v_aload_n h (i := 1) dX3_join_49 (q := 50) rfl rfl rfl ?_
        refine v_getr h fl_X3_35 (by assumption) rfl (by assumption) dX3_join_50 (q := 53) rfl ?_
        refine v_iload_n h (i := 3) dX3_join_53 (q := 54) rfl rfl rfl ?_
        refine v_iald h (by assumption) rfl (by first | assumption | omega) (by decide) dX3_join_54 (q := 55) rfl ?_
        refine v_iconst h (v := (-1)) dX3_join_55 (q := 56) rfl (by decide +kernel) ?_
        refine v_icmp_ne h dX3_join_56 (q := 59) rfl (tgt := 71) (by decide) (fun c4 => ?_) (fun c4 => ?_)
        · skip
          have e5 : pb_jna (pb_jnN sg J b f i) J b i = pb_jb (pb_jnN sg J b f i) J i := if_neg c4
          refine v_sg e5.symm ?_
          refine v_aload_n h (i := 0) dX3_join_71 (q := 72) rfl rfl rfl ?_
          refine v_getr h fl_X3_12 (by assumption) rfl (by assumption) dX3_join_72 (q := 75) rfl ?_
          refine v_aload_n h (i := 1) dX3_join_75 (q := 76) rfl rfl rfl ?_
          refine v_getr h fl_X3_35 (by assumption) rfl (by assumption) dX3_join_76 (q := 79) rfl ?_
          refine v_iload_n h (i := 3) dX3_join_79 (q := 80) rfl rfl rfl ?_
          refine v_iald h (by assumption) rfl (by first | assumption | omega) (by decide) dX3_join_80 (q := 81) rfl ?_
          refine v_iconst h (v := nI 1) dX3_join_81 (q := 82) rfl (by decide +kernel) ?_
          refine v_icmp_ne h dX3_join_82 (q := 85) rfl (tgt := 92) (by decide) (fun c5 => ?_) (fun c5 => ?_)
          · skip
            have e9 : pb_jn1 (pb_jnN sg J b f i) J b f i = pb_take (pb_jna (pb_jnN sg J b f i) J b i) (J + 1) (b + 1) i := by unfold pb_jn1; rw [if_pos e8, if_neg c5]
            refine v_aload_n h (i := 1) dX3_join_92 (q := 93) rfl rfl rfl ?_
            refine v_getr h fl_X3_25 (by assumption) rfl (by assumption) dX3_join_93 (q := 96) rfl ?_
            refine v_iload_n h (i := 3) dX3_join_96 (q := 97) rfl rfl rfl ?_
            refine v_callV0 h (c_X4_take hfl hj2 (by assumption) hi2) kX4_take tw572 tw521 (by assumption) (by decide) rfl rfl rfl (by simp [Value.category]) (by decide) (Nat.zero_le _) (Nat.zero_le _) rfl dX3_join_97 (q := 100) rfl ?_
            refine v_goto h dX3_join_100 (tgt := 120) (by decide) ?_
            refine v_iinc h dX3_join_120 (q := 123) rfl rfl pb_inc rfl ?_
            refine v_goto h dX3_join_123 (tgt := 12) (by decide) ?_
            have h9 := ih (i + 1) (by omega)
            rw [show pb_jnN sg J b f (i + 1) = pb_jn1 (pb_jnN sg J b f i) J b f i from rfl, e9] at h9
            exact h9
          · skip
            have e9 : pb_jn1 (pb_jnN sg J b f i) J b f i = pb_take (pb_jna (pb_jnN sg J b f i) J b i) (J + 1) (f + 1) i := by unfold pb_jn1; rw [if_pos e8, if_pos c5]
            refine v_aload_n h (i := 2) dX3_join_85 (q := 86) rfl rfl rfl ?_
            refine v_getr h fl_X3_25 (by assumption) rfl (by assumption) dX3_join_86 (q := 89) rfl ?_
            refine v_goto h dX3_join_89 (tgt := 96) (by decide) ?_
            refine v_iload_n h (i := 3) dX3_join_96 (q := 97) rfl rfl rfl ?_
            refine v_callV0 h (c_X4_take hfl hj2 (by assumption) hi2) kX4_take tw572 tw521 (by assumption) (by decide) rfl rfl rfl (by simp [Value.category]) (by decide) (Nat.zero_le _) (Nat.zero_le _) rfl dX3_join_97 (q := 100) rfl ?_
            refine v_goto h dX3_join_100 (tgt := 120) (by decide) ?_
            refine v_iinc h dX3_join_120 (q := 123) rfl rfl pb_inc rfl ?_
            refine v_goto h dX3_join_123 (tgt := 12) (by decide) ?_
            have h9 := ih (i + 1) (by omega)
            rw [show pb_jnN sg J b f (i + 1) = pb_jn1 (pb_jnN sg J b f i) J b f i from rfl, e9] at h9
            exact h9
        · skip
          have e5 : pb_jna (pb_jnN sg J b f i) J b i = pb_jc (pb_jnN sg J b f i) J i := if_pos c4
          refine v_aload_n h (i := 0) dX3_join_59 (q := 60) rfl rfl rfl ?_
          refine v_dup h dX3_join_60 (q := 61) rfl rfl ?_
          refine v_geti h fl_X3_22 (by assumption) rfl dX3_join_61 (q := 64) rfl ?_
          refine v_iconst h (v := nI 1) dX3_join_64 (q := 65) rfl (by decide +kernel) ?_
          refine v_iload_n h (i := 3) dX3_join_65 (q := 66) rfl rfl rfl ?_
          refine v_ishl h dX3_join_66 (q := 67) rfl ?_
          refine v_ior h dX3_join_67 (q := 68) rfl ?_
          refine v_puti h fl_X3_22 (by assumption) rfl rfl dX3_join_68 (q := 71) rfl ?_
          refine v_sg e5.symm ?_
          refine v_aload_n h (i := 0) dX3_join_71 (q := 72) rfl rfl rfl ?_
          refine v_getr h fl_X3_12 (by assumption) rfl (by assumption) dX3_join_72 (q := 75) rfl ?_
          refine v_aload_n h (i := 1) dX3_join_75 (q := 76) rfl rfl rfl ?_
          refine v_getr h fl_X3_35 (by assumption) rfl (by assumption) dX3_join_76 (q := 79) rfl ?_
          refine v_iload_n h (i := 3) dX3_join_79 (q := 80) rfl rfl rfl ?_
          refine v_iald h (by assumption) rfl (by first | assumption | omega) (by decide) dX3_join_80 (q := 81) rfl ?_
          refine v_iconst h (v := nI 1) dX3_join_81 (q := 82) rfl (by decide +kernel) ?_
          refine v_icmp_ne h dX3_join_82 (q := 85) rfl (tgt := 92) (by decide) (fun c6 => ?_) (fun c6 => ?_)
          · skip
            have e9 : pb_jn1 (pb_jnN sg J b f i) J b f i = pb_take (pb_jna (pb_jnN sg J b f i) J b i) (J + 1) (b + 1) i := by unfold pb_jn1; rw [if_pos e8, if_neg c6]
            refine v_aload_n h (i := 1) dX3_join_92 (q := 93) rfl rfl rfl ?_
            refine v_getr h fl_X3_25 (by assumption) rfl (by assumption) dX3_join_93 (q := 96) rfl ?_
            refine v_iload_n h (i := 3) dX3_join_96 (q := 97) rfl rfl rfl ?_
            refine v_callV0 h (c_X4_take hfl hj2 (by assumption) hi2) kX4_take tw572 tw521 (by assumption) (by decide) rfl rfl rfl (by simp [Value.category]) (by decide) (Nat.zero_le _) (Nat.zero_le _) rfl dX3_join_97 (q := 100) rfl ?_
            refine v_goto h dX3_join_100 (tgt := 120) (by decide) ?_
            refine v_iinc h dX3_join_120 (q := 123) rfl rfl pb_inc rfl ?_
            refine v_goto h dX3_join_123 (tgt := 12) (by decide) ?_
            have h9 := ih (i + 1) (by omega)
            rw [show pb_jnN sg J b f (i + 1) = pb_jn1 (pb_jnN sg J b f i) J b f i from rfl, e9] at h9
            exact h9
          · skip
            have e9 : pb_jn1 (pb_jnN sg J b f i) J b f i = pb_take (pb_jna (pb_jnN sg J b f i) J b i) (J + 1) (f + 1) i := by unfold pb_jn1; rw [if_pos e8, if_pos c6]
            refine v_aload_n h (i := 2) dX3_join_85 (q := 86) rfl rfl rfl ?_
            refine v_getr h fl_X3_25 (by assumption) rfl (by assumption) dX3_join_86 (q := 89) rfl ?_
            refine v_goto h dX3_join_89 (tgt := 96) (by decide) ?_
            refine v_iload_n h (i := 3) dX3_join_96 (q := 97) rfl rfl rfl ?_
            refine v_callV0 h (c_X4_take hfl hj2 (by assumption) hi2) kX4_take tw572 tw521 (by assumption) (by decide) rfl rfl rfl (by simp [Value.category]) (by decide) (Nat.zero_le _) (Nat.zero_le _) rfl dX3_join_97 (q := 100) rfl ?_
            refine v_goto h dX3_join_100 (tgt := 120) (by decide) ?_
            refine v_iinc h dX3_join_120 (q := 123) rfl rfl pb_inc rfl ?_
            refine v_goto h dX3_join_123 (tgt := 12) (by decide) ?_
            have h9 := ih (i + 1) (by omega)
            rw [show pb_jnN sg J b f (i + 1) = pb_jn1 (pb_jnN sg J b f i) J b f i from rfl, e9] at h9
            exact h9
  exact lp 16 0 (by omega)
set_option maxHeartbeats 4000000 in
set_option maxRecDepth 100000 in
theorem c_X0_startFrom {l : Launch} (hfl : l.stackTraces = false) {sz : Nat} {sk : pb_Sk} {rf : pb_Rf} {sg : pb_Sg} {b r : Nat} (hb : pb_br sk rf b) (hr : pb_plan sk rf r) : pb_Met l mX0_startFrom 4 0 0 [.ref b, .ref r] sz sk rf sg (pb_is none sz sk rf (pb_fillN (pb_up (pb_copyN sg (b + 6) r 16) (b + 11) 6 (nI 0)) (b + 17) 0 (-1) 16)) := by
  refine pb_start hfl (by decide +kernel) rfl (pb_c1 rfl) (Nat.le_of_ble_eq_true rfl) (fun F hF h hQ => ?_)
  subst hF
  show pv F 0 0 sz sk rf sg 0 [some (.ref b), some (.ref r)] []
  obtain ⟨hb0, hb1, hb2, hb3, hb4, hb5, hb6, hb7, hb8⟩ := id hb
  have hb9 := hb6.1
  have hb10 := hb7.1
  refine v_aload_n h (i := 0) dX0_startFrom_0 (q := 1) rfl rfl rfl ?_
  refine v_getr h fl_X0_18 (by assumption) rfl (by assumption) dX0_startFrom_1 (q := 4) rfl ?_
  refine v_aload_n h (i := 1) dX0_startFrom_4 (q := 5) rfl rfl rfl ?_
  refine v_callV0 h (c_X4_copyFrom hfl hb6 hr) kX4_copyFrom tw690 tw517 (by assumption) (by decide) rfl rfl rfl (by simp [Value.category]) (by decide) (Nat.zero_le _) (Nat.zero_le _) rfl dX0_startFrom_5 (q := 8) rfl ?_
  refine v_aload_n h (i := 0) dX0_startFrom_8 (q := 9) rfl rfl rfl ?_
  refine v_getr h fl_X0_24 (by assumption) rfl (by assumption) dX0_startFrom_9 (q := 12) rfl ?_
  refine v_callV0 h (c_X2_forget hfl hb7) kX2_forget tw691 tw525 (by assumption) (by decide) rfl rfl rfl (by simp [Value.category]) (by decide) (Nat.zero_le _) (Nat.zero_le _) rfl dX0_startFrom_12 (q := 15) rfl ?_
  refine v_aload_n h (i := 0) dX0_startFrom_15 (q := 16) rfl rfl rfl ?_
  refine v_getr h fl_X0_28 (by assumption) rfl (by assumption) dX0_startFrom_16 (q := 19) rfl ?_
  refine v_iconst h (v := (-1)) dX0_startFrom_19 (q := 20) rfl (by decide +kernel) ?_
  refine v_callS0 h (c_J7_fill_53178 hfl hb8 (by omega)) kJ7_fill_53178 rfl tw692 rfl rfl (by simp [Value.category]) (by decide) (Nat.zero_le _) (Nat.zero_le _) rfl dX0_startFrom_20 (q := 23) rfl ?_
  refine v_vret h hQ rfl dX0_startFrom_23 (Nat.zero_le _) (Nat.zero_le _) ⟨rfl, rfl, rfl, rfl, rfl⟩
end
section
theorem pb_up_ne2 {sg : pb_Sg} {a k b j : Nat} {x : Int32} (h : b ≠ a) : pb_up sg a k x b j = sg b j := by rw [pb_up_ne h]
theorem pb_up_ne3 {sg : pb_Sg} {a k b j : Nat} {x : Int32} (h : j ≠ k) : pb_up sg a k x b j = sg b j := by
  rw [pb_up_at, if_neg (fun q => h q.2)]
theorem pb_up_self {sg : pb_Sg} {a k : Nat} {x : Int32} : pb_up sg a k x a k = x := by rw [pb_up_at, if_pos ⟨rfl, rfl⟩]
theorem pb_fill_at (sg : pb_Sg) (a lo : Nat) (x : Int32) (m b j : Nat) : pb_fillN sg a lo x m b j = if b = a ∧ lo ≤ j ∧ j < lo + m then x else sg b j := by
  induction m with
  | zero =>
    rw [if_neg (by omega)]
    rfl
  | succ m ih =>
    show pb_up (pb_fillN sg a lo x m) a (lo + m) x b j = _
    rw [pb_up_at, ih]
    by_cases e : b = a ∧ j = lo + m
    · rw [if_pos e, if_pos (by omega)]
    · rw [if_neg e]
      by_cases e2 : b = a ∧ lo ≤ j ∧ j < lo + m
      · rw [if_pos e2, if_pos (by omega)]
      · rw [if_neg e2, if_neg (by omega)]
def pb_nat (x : Int32) : Nat := x.toNatClampNeg
theorem pb_nat_nI {n : Nat} (h : n < 2147483648) : pb_nat (nI n) = n := nI_clamp h
theorem pb_nat_m1 : pb_nat (-1) = 0 := by decide
def pb_oi : Option Nat → Int32
  | none => -1
  | some d => nI d
theorem pb_m1_ne {n : Nat} (h : n < 2147483648) : ¬ nI n = -1 := fun q => by
  have h1 := nI_toInt h
  rw [q] at h1
  have h2 : ((-1 : Int32)).toInt = -1 := by decide
  omega
theorem pb_mx_nat {a : Nat} {y : Int32} (ha : a < 2147483648) (hy : y = -1 ∨ ∃ m, m < 2147483648 ∧ y = nI m) : pb_mx (nI a) y = nI (max a (pb_nat y)) := by
  unfold pb_mx
  rcases hy with rfl | ⟨m, hm, rfl⟩
  · rw [if_neg, pb_nat_m1, Nat.max_eq_left (Nat.zero_le a)]
    intro q
    have h1 := Int32.lt_iff_toInt_lt.mp q
    rw [nI_toInt ha] at h1
    have h2 : ((-1 : Int32)).toInt = -1 := by decide
    omega
  · rw [pb_nat_nI hm]
    by_cases e : a < m
    · rw [if_pos ((nI_ltI ha hm).mpr e), Nat.max_eq_right (by omega)]
    · rw [if_neg (fun q => e ((nI_ltI ha hm).mp q)), Nat.max_eq_left (by omega)]
/-- a row's length is 0 to 20, its crew none or 0 to 4 -/
def pb_wf (sg : pb_Sg) (p : Nat) : Prop := ∀ t, t < 16 → (∃ l, l ≤ 20 ∧ sg (p + 1) t = nI l) ∧ (sg (p + 2) t = -1 ∨ ∃ c, c < 5 ∧ sg (p + 2) t = nI c)
theorem pb_wf.of {sg sg' : pb_Sg} {p : Nat} (h : pb_wf sg p) (h1 : ∀ t, sg' (p + 1) t = sg (p + 1) t) (h2 : ∀ t, sg' (p + 2) t = sg (p + 2) t) : pb_wf sg' p := fun t ht => by
  rw [h1 t, h2 t]
  exact h t ht
def pb_sch (sk : pb_Sk) (rf : pb_Rf) (s : Nat) : Prop := sk s = (11, 0) ∧ rf s 0 = some (s + 1) ∧ rf s 1 = some (s + 2) ∧ sk (s + 1) = (1, 16) ∧ sk (s + 2) = (5, 5) ∧ (∀ i, i < 5 → rf (s + 2) i = some (s + 3 + i)) ∧ ∀ i, i < 5 → sk (s + 3 + i) = (1, 400)
/-- the days of the schedule at s, for the plan at p -/
def pb_si (sg : pb_Sg) (s p : Nat) : Prop := pb_wf sg p ∧ ∀ t, t < 16 → sg (s + 1) t = -1 ∨ ∃ d, sg (s + 1) t = nI d ∧ d + pb_nat (sg (p + 1) t) ≤ 400
def pb_dn (sg : pb_Sg) (s p t : Nat) : Nat → Nat
  | 0 => 0
  | n + 1 => if pb_in (sg (p + 4) t) n = true then max (pb_dn sg s p t n) (pb_nat (sg (s + 1) n + sg (p + 1) n)) else pb_dn sg s p t n
theorem pb_fdl {sg : pb_Sg} {s p t : Nat} (h : pb_si sg s p) (ht : t < 16) : sg (s + 1) t + sg (p + 1) t = -1 ∨ ∃ m, m ≤ 400 ∧ sg (s + 1) t + sg (p + 1) t = nI m := by
  obtain ⟨⟨l, hl, el⟩, -⟩ := h.1 t ht
  rcases h.2 t ht with e | ⟨d, e, hd⟩
  · rw [e, el]
    rcases Nat.eq_zero_or_pos l with q | q
    · subst q; exact Or.inl (by decide)
    · refine Or.inr ⟨l - 1, by omega, ?_⟩
      rw [Int32.add_comm]
      have := pk_m1 (l - 1)
      rw [show l - 1 + 1 = l by omega] at this
      exact this
  · rw [el, pb_nat_nI (by omega)] at hd
    exact Or.inr ⟨d + l, hd, by rw [e, el, nI_add]⟩
theorem pb_dn_le {sg : pb_Sg} {s p t : Nat} (h : pb_si sg s p) (n : Nat) (hn : n ≤ 16) : pb_dn sg s p t n ≤ 400 := by
  induction n with
  | zero => exact Nat.zero_le _
  | succ n ih =>
    have ih := ih (by omega)
    unfold pb_dn
    split
    · rcases pb_fdl h (t := n) (by omega) with e | ⟨m, hm, e⟩
      · rw [e, pb_nat_m1]; omega
      · rw [e, pb_nat_nI (by omega)]; omega
    · exact ih
def pb_scan (w : Nat → Int32) (l : Nat) : Nat → Nat → Nat → Option Nat
  | 0, _, _ => none
  | j + 1, d, r => if (if w d = -1 then r + 1 else 0) = l then some (d + 1 - l) else pb_scan w l j (d + 1) (if w d = -1 then r + 1 else 0)
theorem pb_scan_le {w : Nat → Int32} {l : Nat} : ∀ (j d r x : Nat), r ≤ d → pb_scan w l j d r = some x → x + l ≤ d + j := by
  intro j
  induction j with
  | zero => intro d r x _ h; cases h
  | succ j ih =>
    intro d r x hr h
    unfold pb_scan at h
    have hr2 : (if w d = -1 then r + 1 else 0) ≤ d + 1 := by split <;> omega
    by_cases e : (if w d = -1 then r + 1 else 0) = l
    · rw [if_pos e] at h
      cases h
      omega
    · rw [if_neg e] at h
      have := ih (d + 1) _ x hr2 h
      omega
theorem pb_scan_free {w : Nat → Int32} {l : Nat} : ∀ (j d r x : Nat), r ≤ d → (∀ y, d - r ≤ y → y < d → w y = -1) → pb_scan w l j d r = some x → ∀ y, x ≤ y → y < x + l → w y = -1 := by
  intro j
  induction j with
  | zero => intro d r x _ _ h; cases h
  | succ j ih =>
    intro d r x hr hw h y hy1 hy2
    unfold pb_scan at h
    by_cases e : w d = -1
    · rw [if_pos e] at h
      have hw2 : ∀ y, (d + 1) - (r + 1) ≤ y → y < d + 1 → w y = -1 := by
        intro y h1 h2
        by_cases e2 : y = d
        · subst e2; exact e
        · exact hw y (by omega) (by omega)
      by_cases e3 : r + 1 = l
      · rw [if_pos e3] at h
        cases h
        exact hw2 y (by omega) (by omega)
      · rw [if_neg e3] at h
        exact ih (d + 1) (r + 1) x (by omega) hw2 h y hy1 hy2
    · rw [if_neg e] at h
      by_cases e3 : 0 = l
      · omega
      · rw [if_neg e3] at h
        exact ih (d + 1) 0 x (by omega) (fun y h1 h2 => by omega) h y hy1 hy2
def pb_ear (sg : pb_Sg) (s p t : Nat) : Option Nat := if sg (p + 2) t = -1 then (if pb_dn sg s p t 16 + pb_nat (sg (p + 1) t) ≤ 400 then some (pb_dn sg s p t 16) else none) else pb_scan (sg (s + 3 + pb_nat (sg (p + 2) t))) (pb_nat (sg (p + 1) t)) (400 - pb_dn sg s p t 16) (pb_dn sg s p t 16) 0
theorem pb_ear_le {sg : pb_Sg} {s p t x : Nat} (hs : pb_si sg s p) (h : pb_ear sg s p t = some x) : x + pb_nat (sg (p + 1) t) ≤ 400 := by
  unfold pb_ear at h
  have hd := pb_dn_le (t := t) hs 16 (by omega)
  by_cases e : sg (p + 2) t = -1
  · rw [if_pos e] at h
    by_cases e2 : pb_dn sg s p t 16 + pb_nat (sg (p + 1) t) ≤ 400
    · rw [if_pos e2] at h
      cases h
      exact e2
    · rw [if_neg e2] at h; cases h
  · rw [if_neg e] at h
    have := pb_scan_le _ _ _ _ (Nat.zero_le _) h
    omega
theorem pb_ear_free {sg : pb_Sg} {s p t x : Nat} (h : pb_ear sg s p t = some x) (e : ¬ sg (p + 2) t = -1) : ∀ y, x ≤ y → y < x + pb_nat (sg (p + 1) t) → sg (s + 3 + pb_nat (sg (p + 2) t)) y = -1 := by
  unfold pb_ear at h
  rw [if_neg e] at h
  exact pb_scan_free _ _ _ _ (Nat.zero_le _) (fun y h1 h2 => by omega) h
def pb_mark (sg : pb_Sg) (s p t d : Nat) (m : Int32) : pb_Sg := if sg (p + 2) t = -1 then sg else pb_fillN sg (s + 3 + pb_nat (sg (p + 2) t)) d m (pb_nat (sg (p + 1) t))
def pb_plc (sg : pb_Sg) (s t : Nat) (x : Int32) (b : Int32) : pb_Sg := pb_up (pb_up sg (s + 1) t x) s 2 b
def pb_place (sg : pb_Sg) (s p t d : Nat) : pb_Sg := pb_mark (pb_plc sg s t (nI d) (sg s 2 ||| (nI 1 <<< (nI t &&& 31)))) s p t d (nI t)
def pb_tback (sg : pb_Sg) (s p t d : Nat) : pb_Sg := pb_mark (pb_plc sg s t (-1) (sg s 2 &&& ((nI 1 <<< (nI t &&& 31)) ^^^ (-1)))) s p t d (-1)
/-- plan and schedule are apart -/
def pb_ap (s p : Nat) : Prop := p + 4 < s ∨ s + 7 < p
theorem pb_plc_p {sg : pb_Sg} {s p t k j : Nat} {x b : Int32} (h : pb_ap s p) (hk : k ≤ 4) : pb_plc sg s t x b (p + k) j = sg (p + k) j := by
  unfold pb_plc pb_ap at *
  rw [pb_up_ne2 (by omega), pb_up_ne2 (by omega)]
theorem pb_mark_p {sg : pb_Sg} {s p t d k j : Nat} {m : Int32} (h : pb_ap s p) (hk : k ≤ 4) (hw : pb_wf sg p) (ht : t < 16) : pb_mark sg s p t d m (p + k) j = sg (p + k) j := by
  unfold pb_mark pb_ap at *
  split
  · rfl
  · rename_i e
    rcases (hw t ht).2 with q | ⟨c, hc, q⟩
    · exact absurd q e
    · rw [q, pb_nat_nI (by omega), pb_fill_at, if_neg (by omega)]
theorem pb_wf_plc {sg : pb_Sg} {s p t : Nat} {x b : Int32} (h : pb_ap s p) (hw : pb_wf sg p) : pb_wf (pb_plc sg s t x b) p := hw.of (fun _ => pb_plc_p h (by omega)) (fun _ => pb_plc_p h (by omega))
theorem pb_mark_1 {sg : pb_Sg} {s p t d j : Nat} {m : Int32} : pb_mark sg s p t d m (s + 1) j = sg (s + 1) j := by
  unfold pb_mark
  split
  · rfl
  · rw [pb_fill_at, if_neg (by omega)]
theorem pb_mark_0 {sg : pb_Sg} {s p t d j : Nat} {m : Int32} : pb_mark sg s p t d m s j = sg s j := by
  unfold pb_mark
  split
  · rfl
  · rw [pb_fill_at, if_neg (by omega)]
theorem pb_place_p {sg : pb_Sg} {s p t d k j : Nat} (h : pb_ap s p) (hk : k ≤ 4) (hw : pb_wf sg p) (ht : t < 16) : pb_place sg s p t d (p + k) j = sg (p + k) j := by
  unfold pb_place
  rw [pb_mark_p h hk (pb_wf_plc h hw) ht, pb_plc_p h hk]
theorem pb_place_1 {sg : pb_Sg} {s p t d j : Nat} : pb_place sg s p t d (s + 1) j = if j = t then nI d else sg (s + 1) j := by
  unfold pb_place
  rw [pb_mark_1]
  unfold pb_plc
  rw [pb_up_ne2 (by omega), pb_up_at]
  by_cases e : j = t
  · rw [if_pos ⟨rfl, e⟩, if_pos e]
  · rw [if_neg (fun q => e q.2), if_neg e]
theorem pb_place_0 {sg : pb_Sg} {s p t d : Nat} : pb_place sg s p t d s 2 = sg s 2 ||| (nI 1 <<< (nI t &&& 31)) := by
  unfold pb_place
  rw [pb_mark_0]
  unfold pb_plc
  rw [pb_up_self]
theorem pb_si_place {sg : pb_Sg} {s p t d : Nat} (h : pb_ap s p) (hs : pb_si sg s p) (ht : t < 16) (hd : d + pb_nat (sg (p + 1) t) ≤ 400) : pb_si (pb_place sg s p t d) s p := by
  refine ⟨hs.1.of (fun _ => pb_place_p h (by omega) hs.1 ht) (fun _ => pb_place_p h (by omega) hs.1 ht), fun j hj => ?_⟩
  rw [pb_place_1, pb_place_p h (by omega) hs.1 ht]
  by_cases e : j = t
  · rw [if_pos e]
    subst e
    exact Or.inr ⟨d, rfl, hd⟩
  · rw [if_neg e]
    exact hs.2 j hj
/-- taking back what was placed leaves all as it was -/
theorem pb_tback_place {sg : pb_Sg} {s p t d : Nat} (h : pb_ap s p) (hs : pb_si sg s p) (ht : t < 16) (h1 : sg (s + 1) t = -1) (h2 : pb_in (sg s 2) t = false) (h3 : ¬ sg (p + 2) t = -1 → ∀ y, d ≤ y → y < d + pb_nat (sg (p + 1) t) → sg (s + 3 + pb_nat (sg (p + 2) t)) y = -1) : pb_tback (pb_place sg s p t d) s p t d = sg := by
  have e2 : pb_place sg s p t d (p + 2) t = sg (p + 2) t := pb_place_p h (by omega) hs.1 ht
  have e1 : pb_place sg s p t d (p + 1) t = sg (p + 1) t := pb_place_p h (by omega) hs.1 ht
  have eb : (sg s 2 ||| (nI 1 <<< (nI t &&& 31))) &&& ((nI 1 <<< (nI t &&& 31)) ^^^ (-1)) = sg s 2 := by
    apply pb_in_ext
    intro j hj
    rw [pb_in_and, pb_in_or, pb_in_xor, pb_in_bit (by omega) hj, pb_in_m1 hj]
    by_cases e : j = t
    · subst e; simp [h2]
    · simp [e]
  have key : ∀ b j, pb_tback (pb_place sg s p t d) s p t d b j = sg b j := by
    intro b j
    unfold pb_tback pb_mark
    rw [pb_plc_p h (by omega), e2, pb_plc_p h (by omega), e1, pb_place_0, eb]
    unfold pb_place pb_mark
    rw [pb_plc_p h (by omega), pb_plc_p h (by omega)]
    by_cases q : sg (p + 2) t = -1
    · rw [if_pos q, if_pos q]
      unfold pb_plc
      rw [pb_up_at, pb_up_at, pb_up_at, pb_up_at]
      by_cases e3 : b = s ∧ j = 2
      · rw [if_pos e3, e3.1, e3.2]
      · rw [if_neg e3, if_neg e3]
        by_cases e4 : b = s + 1 ∧ j = t
        · rw [if_pos e4, e4.1, e4.2, h1]
        · rw [if_neg e4, if_neg e4]
    · rw [if_neg q, if_neg q, pb_fill_at]
      by_cases e5 : b = s + 3 + pb_nat (sg (p + 2) t) ∧ d ≤ j ∧ j < d + pb_nat (sg (p + 1) t)
      · rw [if_pos e5, e5.1, h3 q j e5.2.1 e5.2.2]
      · rw [if_neg e5]
        unfold pb_plc
        rw [pb_up_at, pb_up_at, pb_fill_at, if_neg e5, pb_up_at, pb_up_at]
        by_cases e3 : b = s ∧ j = 2
        · rw [if_pos e3, e3.1, e3.2]
        · rw [if_neg e3, if_neg e3]
          by_cases e4 : b = s + 1 ∧ j = t
          · rw [if_pos e4, e4.1, e4.2, h1]
          · rw [if_neg e4, if_neg e4]
  funext b j
  exact key b j
def pb_rdy (sg : pb_Sg) (s p : Nat) (U : Int32) (t : Nat) : Bool := pb_in U t && decide ((sg (p + 4) t &&& (sg s 2 ^^^ (-1))) = 0)
/-- the best task so far, and its tail -/
def pb_nbt (sg : pb_Sg) (s p : Nat) (U : Int32) (a : Nat) : Nat → Option Nat × Int32
  | 0 => (none, nI 0)
  | n + 1 => if pb_rdy sg s p U n = true ∧ (pb_nbt sg s p U a n).2 < sg a n then (some n, sg a n) else pb_nbt sg s p U a n
theorem pb_nbt_lt {sg : pb_Sg} {s p : Nat} {U : Int32} {a n t : Nat} (h : (pb_nbt sg s p U a n).1 = some t) : t < n := by
  induction n with
  | zero => cases h
  | succ n ih =>
    unfold pb_nbt at h
    split at h
    · cases h; omega
    · have := ih h; omega
def pb_pbt (s p a : Nat) : Nat → pb_Sg → Int32 → pb_Sg
  | 0, S, _ => S
  | n + 1, S, U => match (pb_nbt S s p U a 16).1 with
    | none => S
    | some t => match pb_ear S s p t with
      | none => pb_pbt s p a n S (U &&& ((nI 1 <<< (nI t &&& 31)) ^^^ (-1)))
      | some d => pb_pbt s p a n (pb_place S s p t d) (U &&& ((nI 1 <<< (nI t &&& 31)) ^^^ (-1)))
def pb_ebs (rec : pb_Sg → Int32 → Int32 → Int32 → Int32) (s p : Nat) (S : pb_Sg) (U E : Int32) (i : Nat) (f : Int32) : Int32 :=
  if pb_rdy S s p U i = true then (match pb_ear S s p i with
    | none => f
    | some d => if pb_mx E (nI d + S (p + 1) i - nI 1) < f then rec (pb_place S s p i d) (U &&& ((nI 1 <<< (nI i &&& 31)) ^^^ (-1))) (pb_mx E (nI d + S (p + 1) i - nI 1)) f else f) else f
def pb_ebl (rec : pb_Sg → Int32 → Int32 → Int32 → Int32) (s p : Nat) (S : pb_Sg) (U E B : Int32) : Nat → Int32
  | 0 => B
  | n + 1 => pb_ebs rec s p S U E n (pb_ebl rec s p S U E B n)
def pb_ebo (s p : Nat) : Nat → pb_Sg → Int32 → Int32 → Int32 → Int32
  | 0, _, _, E, _ => E
  | k + 1, S, U, E, B => if U = 0 then E else pb_ebl (pb_ebo s p k) s p S U E B 16
/-- what isn't placed has no day; no task that is left is placed -/
def pb_sj (sg : pb_Sg) (s : Nat) (U : Int32) : Prop := ∀ t, t < 16 → pb_in U t = true → sg (s + 1) t = -1 ∧ pb_in (sg s 2) t = false
theorem pb_sj_place {sg : pb_Sg} {s p t d : Nat} {U : Int32} (h : pb_sj sg s U) (ht : t < 16) : pb_sj (pb_place sg s p t d) s (U &&& ((nI 1 <<< (nI t &&& 31)) ^^^ (-1))) := by
  intro j hj hu
  rw [pb_in_and, pb_in_xor, pb_in_bit (by omega) (by omega), pb_in_m1 (by omega)] at hu
  have hne : j ≠ t := fun q => by subst q; simp at hu
  have hu2 : pb_in U j = true := by
    cases e : pb_in U j
    · rw [e] at hu; cases hu
    · rfl
  obtain ⟨a1, a2⟩ := h j hj hu2
  rw [pb_place_1, if_neg hne, pb_place_0, pb_in_or, pb_in_bit (by omega) (by omega), a2, decide_eq_false hne]
  exact ⟨a1, rfl⟩
def pb_eo (sg : pb_Sg) (s p : Nat) : Nat → Int32
  | 0 => -1
  | n + 1 => if pb_in (sg s 2) n = true then pb_mx (pb_eo sg s p n) (sg (s + 1) n + sg (p + 1) n - nI 1) else pb_eo sg s p n
def pb_stD (S : pb_Sg) (s c : Nat) (x : Int32) (k : Nat) : Nat → pb_Sg
  | 0 => S
  | n + 1 => pb_up (pb_stD S s c x k n) (s + 3 + k) n (if pb_held (pb_stD S s c x k n) c k n = x then -1 else -2)
def pb_stC (sg : pb_Sg) (s c : Nat) (x : Int32) : Nat → pb_Sg
  | 0 => pb_fillN (pb_up sg s 2 (nI 0)) (s + 1) 0 (-1) 16
  | k + 1 => pb_stD (pb_stC sg s c x k) s c x k 400
theorem pb_day {a b : Nat} (h : b ≤ a + 1) : nI a - nI b + nI 1 = nI (a + 1 - b) := by
  have h1 : nI b + nI (a + 1 - b) = nI a + nI 1 := by rw [nI_add, nI_add]; congr 1; omega
  rw [Int32.sub_eq_add_neg, Int32.add_assoc, Int32.add_comm (-nI b), ← Int32.add_assoc, ← h1, Int32.add_comm (nI b), Int32.add_assoc, ← Int32.sub_eq_add_neg, Int32.sub_self, Int32.add_zero]
end
