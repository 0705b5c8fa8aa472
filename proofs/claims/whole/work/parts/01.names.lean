-- ===== PART A: goes FIRST, ahead of the names: the tables' words, and 'selects' of the private methods out of them =====
/-- a private method of a class that the tables say can be made, by its rows of tables_1 -/
def lw_okq (q : MethodName × Nat) : Prop := (q.1.cls ≠ "java/lang/invoke/MethodHandle" ∧ q.1.cls ≠ "java/lang/invoke/VarHandle") ∧ Cond.instantiable q.1.cls q.2 ∈ tables_1 ∧ Cond.privateMethod q.1 ∈ tables_1 ∧ Cond.instanceMethod q.1 ∈ tables_1
theorem lw_p0 : lw_okq (⟨"ServerLine$Line", "numberCrowds", "()V"⟩, 8) := ⟨⟨by decide +kernel, by decide +kernel⟩, List.mem_of_getElem? (i := 25) (by decide +kernel), List.mem_of_getElem? (i := 31) (by decide +kernel), List.mem_of_getElem? (i := 32) (by decide +kernel)⟩
theorem lw_p1 : lw_okq (⟨"ServerLine$Line", "listCrowds", "()V"⟩, 8) := ⟨⟨by decide +kernel, by decide +kernel⟩, List.mem_of_getElem? (i := 25) (by decide +kernel), List.mem_of_getElem? (i := 38) (by decide +kernel), List.mem_of_getElem? (i := 39) (by decide +kernel)⟩
theorem lw_p2 : lw_okq (⟨"ServerLine$Line", "choicesOf", "(I)I"⟩, 8) := ⟨⟨by decide +kernel, by decide +kernel⟩, List.mem_of_getElem? (i := 25) (by decide +kernel), List.mem_of_getElem? (i := 42) (by decide +kernel), List.mem_of_getElem? (i := 43) (by decide +kernel)⟩
theorem lw_p3 : lw_okq (⟨"ServerLine", "isPoint", "(I)Z"⟩, 9) := ⟨⟨by decide +kernel, by decide +kernel⟩, List.mem_of_getElem? (i := 17) (by decide +kernel), List.mem_of_getElem? (i := 406) (by decide +kernel), List.mem_of_getElem? (i := 407) (by decide +kernel)⟩
theorem lw_p4 : lw_okq (⟨"ServerLine", "isServer", "(I)Z"⟩, 9) := ⟨⟨by decide +kernel, by decide +kernel⟩, List.mem_of_getElem? (i := 17) (by decide +kernel), List.mem_of_getElem? (i := 422) (by decide +kernel), List.mem_of_getElem? (i := 423) (by decide +kernel)⟩
theorem lw_p5 : lw_okq (⟨"ServerLine", "readRow", "()Z"⟩, 9) := ⟨⟨by decide +kernel, by decide +kernel⟩, List.mem_of_getElem? (i := 17) (by decide +kernel), List.mem_of_getElem? (i := 434) (by decide +kernel), List.mem_of_getElem? (i := 435) (by decide +kernel)⟩
theorem lw_p6 : lw_okq (⟨"ServerLine$Ahead", "chosen", "(III)I"⟩, 8) := ⟨⟨by decide +kernel, by decide +kernel⟩, List.mem_of_getElem? (i := 283) (by decide +kernel), List.mem_of_getElem? (i := 526) (by decide +kernel), List.mem_of_getElem? (i := 527) (by decide +kernel)⟩
theorem lw_p7 : lw_okq (⟨"ServerLine$Both", "isServed", "(I)Z"⟩, 4) := ⟨⟨by decide +kernel, by decide +kernel⟩, List.mem_of_getElem? (i := 237) (by decide +kernel), List.mem_of_getElem? (i := 549) (by decide +kernel), List.mem_of_getElem? (i := 550) (by decide +kernel)⟩
theorem lw_p8 : lw_okq (⟨"ServerLine$Both", "nearestBelow", "(I)I"⟩, 4) := ⟨⟨by decide +kernel, by decide +kernel⟩, List.mem_of_getElem? (i := 237) (by decide +kernel), List.mem_of_getElem? (i := 553) (by decide +kernel), List.mem_of_getElem? (i := 554) (by decide +kernel)⟩
theorem lw_p9 : lw_okq (⟨"ServerLine$Both", "nearestAbove", "(I)I"⟩, 4) := ⟨⟨by decide +kernel, by decide +kernel⟩, List.mem_of_getElem? (i := 237) (by decide +kernel), List.mem_of_getElem? (i := 557) (by decide +kernel), List.mem_of_getElem? (i := 558) (by decide +kernel)⟩
theorem lw_p10 : lw_okq (⟨"ServerLine$Nearest", "nearestTo", "(I)I"⟩, 5) := ⟨⟨by decide +kernel, by decide +kernel⟩, List.mem_of_getElem? (i := 248) (by decide +kernel), List.mem_of_getElem? (i := 573) (by decide +kernel), List.mem_of_getElem? (i := 574) (by decide +kernel)⟩
theorem lw_p11 : lw_okq (⟨"ServerLine$Guarded", "isTooDear", "(LServerLine$Rule;LServerLine$Rule;)Z"⟩, 7) := ⟨⟨by decide +kernel, by decide +kernel⟩, List.mem_of_getElem? (i := 231) (by decide +kernel), List.mem_of_getElem? (i := 581) (by decide +kernel), List.mem_of_getElem? (i := 582) (by decide +kernel)⟩
theorem lw_p12 : lw_okq (⟨"ServerLine$Guarded", "standAs", "(LServerLine$Rule;)V"⟩, 7) := ⟨⟨by decide +kernel, by decide +kernel⟩, List.mem_of_getElem? (i := 231) (by decide +kernel), List.mem_of_getElem? (i := 585) (by decide +kernel), List.mem_of_getElem? (i := 586) (by decide +kernel)⟩
theorem lw_p13 : lw_okq (⟨"ServerLine$Work", "settle", "()V"⟩, 10) := ⟨⟨by decide +kernel, by decide +kernel⟩, List.mem_of_getElem? (i := 151) (by decide +kernel), List.mem_of_getElem? (i := 594) (by decide +kernel), List.mem_of_getElem? (i := 595) (by decide +kernel)⟩
theorem lw_p14 : lw_okq (⟨"ServerLine$Work", "worthBehind", "(II)I"⟩, 10) := ⟨⟨by decide +kernel, by decide +kernel⟩, List.mem_of_getElem? (i := 151) (by decide +kernel), List.mem_of_getElem? (i := 598) (by decide +kernel), List.mem_of_getElem? (i := 599) (by decide +kernel)⟩
theorem lw_p15 : lw_okq (⟨"ServerLine$Work", "chosen", "(I)I"⟩, 10) := ⟨⟨by decide +kernel, by decide +kernel⟩, List.mem_of_getElem? (i := 151) (by decide +kernel), List.mem_of_getElem? (i := 606) (by decide +kernel), List.mem_of_getElem? (i := 607) (by decide +kernel)⟩
def lw_privs_1 : List (MethodName × Nat) := [(⟨"ServerLine$Line", "numberCrowds", "()V"⟩, 8), (⟨"ServerLine$Line", "listCrowds", "()V"⟩, 8), (⟨"ServerLine$Line", "choicesOf", "(I)I"⟩, 8), (⟨"ServerLine", "isPoint", "(I)Z"⟩, 9), (⟨"ServerLine", "isServer", "(I)Z"⟩, 9), (⟨"ServerLine", "readRow", "()Z"⟩, 9), (⟨"ServerLine$Ahead", "chosen", "(III)I"⟩, 8), (⟨"ServerLine$Both", "isServed", "(I)Z"⟩, 4), (⟨"ServerLine$Both", "nearestBelow", "(I)I"⟩, 4), (⟨"ServerLine$Both", "nearestAbove", "(I)I"⟩, 4), (⟨"ServerLine$Nearest", "nearestTo", "(I)I"⟩, 5), (⟨"ServerLine$Guarded", "isTooDear", "(LServerLine$Rule;LServerLine$Rule;)Z"⟩, 7), (⟨"ServerLine$Guarded", "standAs", "(LServerLine$Rule;)V"⟩, 7), (⟨"ServerLine$Work", "settle", "()V"⟩, 10), (⟨"ServerLine$Work", "worthBehind", "(II)I"⟩, 10), (⟨"ServerLine$Work", "chosen", "(I)I"⟩, 10)]
theorem lw_r1 : ∀ q ∈ lw_privs_1, lw_okq q := List.forall_mem_cons.mpr ⟨lw_p0, List.forall_mem_cons.mpr ⟨lw_p1, List.forall_mem_cons.mpr ⟨lw_p2, List.forall_mem_cons.mpr ⟨lw_p3, List.forall_mem_cons.mpr ⟨lw_p4, List.forall_mem_cons.mpr ⟨lw_p5, List.forall_mem_cons.mpr ⟨lw_p6, List.forall_mem_cons.mpr ⟨lw_p7, List.forall_mem_cons.mpr ⟨lw_p8, List.forall_mem_cons.mpr ⟨lw_p9, List.forall_mem_cons.mpr ⟨lw_p10, List.forall_mem_cons.mpr ⟨lw_p11, List.forall_mem_cons.mpr ⟨lw_p12, List.forall_mem_cons.mpr ⟨lw_p13, List.forall_mem_cons.mpr ⟨lw_p14, List.forall_mem_cons.mpr ⟨lw_p15, fun _ h => absurd h List.not_mem_nil⟩⟩⟩⟩⟩⟩⟩⟩⟩⟩⟩⟩⟩⟩⟩⟩
theorem lw_p16 : lw_okq (⟨"ServerLine", "sentAt", "(LServerLine$Rule;I)I"⟩, 9) := ⟨⟨by decide +kernel, by decide +kernel⟩, List.mem_of_getElem? (i := 17) (by decide +kernel), List.mem_of_getElem? (i := 621) (by decide +kernel), List.mem_of_getElem? (i := 622) (by decide +kernel)⟩
theorem lw_p17 : lw_okq (⟨"ServerLine$Ahead", "planStep", "(II)V"⟩, 8) := ⟨⟨by decide +kernel, by decide +kernel⟩, List.mem_of_getElem? (i := 283) (by decide +kernel), List.mem_of_getElem? (i := 633) (by decide +kernel), List.mem_of_getElem? (i := 634) (by decide +kernel)⟩
theorem lw_p18 : lw_okq (⟨"ServerLine", "isStandingPoint", "(II)Z"⟩, 9) := ⟨⟨by decide +kernel, by decide +kernel⟩, List.mem_of_getElem? (i := 17) (by decide +kernel), List.mem_of_getElem? (i := 652) (by decide +kernel), List.mem_of_getElem? (i := 653) (by decide +kernel)⟩
theorem lw_p19 : lw_okq (⟨"ServerLine$WorstSearch", "weigh", "(LServerLine$Rule;II)V"⟩, 7) := ⟨⟨by decide +kernel, by decide +kernel⟩, List.mem_of_getElem? (i := 325) (by decide +kernel), List.mem_of_getElem? (i := 674) (by decide +kernel), List.mem_of_getElem? (i := 675) (by decide +kernel)⟩
theorem lw_p20 : lw_okq (⟨"ServerLine$WorstSearch", "leastFrom", "(II)I"⟩, 7) := ⟨⟨by decide +kernel, by decide +kernel⟩, List.mem_of_getElem? (i := 325) (by decide +kernel), List.mem_of_getElem? (i := 678) (by decide +kernel), List.mem_of_getElem? (i := 679) (by decide +kernel)⟩
theorem lw_p21 : lw_okq (⟨"ServerLine$WorstSearch", "turnToNextRow", "(I)Z"⟩, 7) := ⟨⟨by decide +kernel, by decide +kernel⟩, List.mem_of_getElem? (i := 325) (by decide +kernel), List.mem_of_getElem? (i := 687) (by decide +kernel), List.mem_of_getElem? (i := 688) (by decide +kernel)⟩
theorem lw_p22 : lw_okq (⟨"ServerLine$Longing", "stored", "()I"⟩, 3) := ⟨⟨by decide +kernel, by decide +kernel⟩, List.mem_of_getElem? (i := 307) (by decide +kernel), List.mem_of_getElem? (i := 705) (by decide +kernel), List.mem_of_getElem? (i := 706) (by decide +kernel)⟩
theorem lw_p23 : lw_okq (⟨"ServerLine$Longing", "paysAt", "(I)Z"⟩, 3) := ⟨⟨by decide +kernel, by decide +kernel⟩, List.mem_of_getElem? (i := 307) (by decide +kernel), List.mem_of_getElem? (i := 729) (by decide +kernel), List.mem_of_getElem? (i := 730) (by decide +kernel)⟩
theorem lw_p24 : lw_okq (⟨"ServerLine", "itemRefusal", "(III)I"⟩, 9) := ⟨⟨by decide +kernel, by decide +kernel⟩, List.mem_of_getElem? (i := 17) (by decide +kernel), List.mem_of_getElem? (i := 762) (by decide +kernel), List.mem_of_getElem? (i := 763) (by decide +kernel)⟩
theorem lw_p25 : lw_okq (⟨"ServerLineModel", "isPoint", "(I)Z"⟩, 29) := ⟨⟨by decide +kernel, by decide +kernel⟩, List.mem_of_getElem? (i := 811) (by decide +kernel), List.mem_of_getElem? (i := 917) (by decide +kernel), List.mem_of_getElem? (i := 918) (by decide +kernel)⟩
theorem lw_p26 : lw_okq (⟨"ServerLineModel", "reads", "()Z"⟩, 29) := ⟨⟨by decide +kernel, by decide +kernel⟩, List.mem_of_getElem? (i := 811) (by decide +kernel), List.mem_of_getElem? (i := 937) (by decide +kernel), List.mem_of_getElem? (i := 938) (by decide +kernel)⟩
theorem lw_p27 : lw_okq (⟨"ServerLineModel", "bestCost", "()I"⟩, 29) := ⟨⟨by decide +kernel, by decide +kernel⟩, List.mem_of_getElem? (i := 811) (by decide +kernel), List.mem_of_getElem? (i := 945) (by decide +kernel), List.mem_of_getElem? (i := 946) (by decide +kernel)⟩
theorem lw_p28 : lw_okq (⟨"ServerLineModel", "plans", "()V"⟩, 29) := ⟨⟨by decide +kernel, by decide +kernel⟩, List.mem_of_getElem? (i := 811) (by decide +kernel), List.mem_of_getElem? (i := 949) (by decide +kernel), List.mem_of_getElem? (i := 950) (by decide +kernel)⟩
theorem lw_p29 : lw_okq (⟨"ServerLineModel", "isStanding", "(I)Z"⟩, 29) := ⟨⟨by decide +kernel, by decide +kernel⟩, List.mem_of_getElem? (i := 811) (by decide +kernel), List.mem_of_getElem? (i := 954) (by decide +kernel), List.mem_of_getElem? (i := 955) (by decide +kernel)⟩
theorem lw_p30 : lw_okq (⟨"ServerLineModel", "pointOf", "(II)I"⟩, 29) := ⟨⟨by decide +kernel, by decide +kernel⟩, List.mem_of_getElem? (i := 811) (by decide +kernel), List.mem_of_getElem? (i := 958) (by decide +kernel), List.mem_of_getElem? (i := 959) (by decide +kernel)⟩
theorem lw_p31 : lw_okq (⟨"ServerLineModel", "wayTo", "(III)I"⟩, 29) := ⟨⟨by decide +kernel, by decide +kernel⟩, List.mem_of_getElem? (i := 811) (by decide +kernel), List.mem_of_getElem? (i := 962) (by decide +kernel), List.mem_of_getElem? (i := 963) (by decide +kernel)⟩
def lw_privs_2 : List (MethodName × Nat) := [(⟨"ServerLine", "sentAt", "(LServerLine$Rule;I)I"⟩, 9), (⟨"ServerLine$Ahead", "planStep", "(II)V"⟩, 8), (⟨"ServerLine", "isStandingPoint", "(II)Z"⟩, 9), (⟨"ServerLine$WorstSearch", "weigh", "(LServerLine$Rule;II)V"⟩, 7), (⟨"ServerLine$WorstSearch", "leastFrom", "(II)I"⟩, 7), (⟨"ServerLine$WorstSearch", "turnToNextRow", "(I)Z"⟩, 7), (⟨"ServerLine$Longing", "stored", "()I"⟩, 3), (⟨"ServerLine$Longing", "paysAt", "(I)Z"⟩, 3), (⟨"ServerLine", "itemRefusal", "(III)I"⟩, 9), (⟨"ServerLineModel", "isPoint", "(I)Z"⟩, 29), (⟨"ServerLineModel", "reads", "()Z"⟩, 29), (⟨"ServerLineModel", "bestCost", "()I"⟩, 29), (⟨"ServerLineModel", "plans", "()V"⟩, 29), (⟨"ServerLineModel", "isStanding", "(I)Z"⟩, 29), (⟨"ServerLineModel", "pointOf", "(II)I"⟩, 29), (⟨"ServerLineModel", "wayTo", "(III)I"⟩, 29)]
theorem lw_r2 : ∀ q ∈ lw_privs_2, lw_okq q := List.forall_mem_cons.mpr ⟨lw_p16, List.forall_mem_cons.mpr ⟨lw_p17, List.forall_mem_cons.mpr ⟨lw_p18, List.forall_mem_cons.mpr ⟨lw_p19, List.forall_mem_cons.mpr ⟨lw_p20, List.forall_mem_cons.mpr ⟨lw_p21, List.forall_mem_cons.mpr ⟨lw_p22, List.forall_mem_cons.mpr ⟨lw_p23, List.forall_mem_cons.mpr ⟨lw_p24, List.forall_mem_cons.mpr ⟨lw_p25, List.forall_mem_cons.mpr ⟨lw_p26, List.forall_mem_cons.mpr ⟨lw_p27, List.forall_mem_cons.mpr ⟨lw_p28, List.forall_mem_cons.mpr ⟨lw_p29, List.forall_mem_cons.mpr ⟨lw_p30, List.forall_mem_cons.mpr ⟨lw_p31, fun _ h => absurd h List.not_mem_nil⟩⟩⟩⟩⟩⟩⟩⟩⟩⟩⟩⟩⟩⟩⟩⟩
theorem lw_p32 : lw_okq (⟨"ServerLineModel", "with", "(III)I"⟩, 29) := ⟨⟨by decide +kernel, by decide +kernel⟩, List.mem_of_getElem? (i := 811) (by decide +kernel), List.mem_of_getElem? (i := 969) (by decide +kernel), List.mem_of_getElem? (i := 970) (by decide +kernel)⟩
theorem lw_p33 : lw_okq (⟨"ServerLineModel", "begin", "()I"⟩, 29) := ⟨⟨by decide +kernel, by decide +kernel⟩, List.mem_of_getElem? (i := 811) (by decide +kernel), List.mem_of_getElem? (i := 973) (by decide +kernel), List.mem_of_getElem? (i := 974) (by decide +kernel)⟩
theorem lw_p34 : lw_okq (⟨"ServerLineModel", "costOf", "(I)I"⟩, 29) := ⟨⟨by decide +kernel, by decide +kernel⟩, List.mem_of_getElem? (i := 811) (by decide +kernel), List.mem_of_getElem? (i := 985) (by decide +kernel), List.mem_of_getElem? (i := 986) (by decide +kernel)⟩
theorem lw_p35 : lw_okq (⟨"ServerLineModel", "runsGuarded", "(I)V"⟩, 29) := ⟨⟨by decide +kernel, by decide +kernel⟩, List.mem_of_getElem? (i := 811) (by decide +kernel), List.mem_of_getElem? (i := 989) (by decide +kernel), List.mem_of_getElem? (i := 990) (by decide +kernel)⟩
theorem lw_p36 : lw_okq (⟨"ServerLineModel", "starts", "()V"⟩, 29) := ⟨⟨by decide +kernel, by decide +kernel⟩, List.mem_of_getElem? (i := 811) (by decide +kernel), List.mem_of_getElem? (i := 993) (by decide +kernel), List.mem_of_getElem? (i := 994) (by decide +kernel)⟩
theorem lw_p37 : lw_okq (⟨"ServerLineModel", "first", "(I)I"⟩, 29) := ⟨⟨by decide +kernel, by decide +kernel⟩, List.mem_of_getElem? (i := 811) (by decide +kernel), List.mem_of_getElem? (i := 1000) (by decide +kernel), List.mem_of_getElem? (i := 1001) (by decide +kernel)⟩
theorem lw_p38 : lw_okq (⟨"ServerLineModel", "goesOn", "(II)V"⟩, 29) := ⟨⟨by decide +kernel, by decide +kernel⟩, List.mem_of_getElem? (i := 811) (by decide +kernel), List.mem_of_getElem? (i := 1004) (by decide +kernel), List.mem_of_getElem? (i := 1005) (by decide +kernel)⟩
theorem lw_p39 : lw_okq (⟨"ServerLineModel", "nearest", "(I)I"⟩, 29) := ⟨⟨by decide +kernel, by decide +kernel⟩, List.mem_of_getElem? (i := 811) (by decide +kernel), List.mem_of_getElem? (i := 1008) (by decide +kernel), List.mem_of_getElem? (i := 1009) (by decide +kernel)⟩
theorem lw_p40 : lw_okq (⟨"ServerLineModel", "sends", "(II)V"⟩, 29) := ⟨⟨by decide +kernel, by decide +kernel⟩, List.mem_of_getElem? (i := 811) (by decide +kernel), List.mem_of_getElem? (i := 1012) (by decide +kernel), List.mem_of_getElem? (i := 1013) (by decide +kernel)⟩
theorem lw_p41 : lw_okq (⟨"ServerLineModel", "both", "(I)V"⟩, 29) := ⟨⟨by decide +kernel, by decide +kernel⟩, List.mem_of_getElem? (i := 811) (by decide +kernel), List.mem_of_getElem? (i := 1016) (by decide +kernel), List.mem_of_getElem? (i := 1017) (by decide +kernel)⟩
theorem lw_p42 : lw_okq (⟨"ServerLineModel", "nearestOn", "(IZ)I"⟩, 29) := ⟨⟨by decide +kernel, by decide +kernel⟩, List.mem_of_getElem? (i := 811) (by decide +kernel), List.mem_of_getElem? (i := 1020) (by decide +kernel), List.mem_of_getElem? (i := 1021) (by decide +kernel)⟩
theorem lw_p43 : lw_okq (⟨"ServerLineModel", "goesByWork", "(I)V"⟩, 29) := ⟨⟨by decide +kernel, by decide +kernel⟩, List.mem_of_getElem? (i := 811) (by decide +kernel), List.mem_of_getElem? (i := 1024) (by decide +kernel), List.mem_of_getElem? (i := 1025) (by decide +kernel)⟩
theorem lw_p44 : lw_okq (⟨"ServerLineModel", "worksOn", "(I)V"⟩, 29) := ⟨⟨by decide +kernel, by decide +kernel⟩, List.mem_of_getElem? (i := 811) (by decide +kernel), List.mem_of_getElem? (i := 1028) (by decide +kernel), List.mem_of_getElem? (i := 1029) (by decide +kernel)⟩
theorem lw_p45 : lw_okq (⟨"ServerLineModel", "hintAt", "(I)I"⟩, 29) := ⟨⟨by decide +kernel, by decide +kernel⟩, List.mem_of_getElem? (i := 811) (by decide +kernel), List.mem_of_getElem? (i := 1032) (by decide +kernel), List.mem_of_getElem? (i := 1033) (by decide +kernel)⟩
theorem lw_p46 : lw_okq (⟨"ServerLineModel", "least", "(IIIIII)I"⟩, 29) := ⟨⟨by decide +kernel, by decide +kernel⟩, List.mem_of_getElem? (i := 811) (by decide +kernel), List.mem_of_getElem? (i := 1036) (by decide +kernel), List.mem_of_getElem? (i := 1037) (by decide +kernel)⟩
theorem lw_p47 : lw_okq (⟨"ServerLineModel", "runs", "(II)V"⟩, 29) := ⟨⟨by decide +kernel, by decide +kernel⟩, List.mem_of_getElem? (i := 811) (by decide +kernel), List.mem_of_getElem? (i := 1040) (by decide +kernel), List.mem_of_getElem? (i := 1041) (by decide +kernel)⟩
def lw_privs_3 : List (MethodName × Nat) := [(⟨"ServerLineModel", "with", "(III)I"⟩, 29), (⟨"ServerLineModel", "begin", "()I"⟩, 29), (⟨"ServerLineModel", "costOf", "(I)I"⟩, 29), (⟨"ServerLineModel", "runsGuarded", "(I)V"⟩, 29), (⟨"ServerLineModel", "starts", "()V"⟩, 29), (⟨"ServerLineModel", "first", "(I)I"⟩, 29), (⟨"ServerLineModel", "goesOn", "(II)V"⟩, 29), (⟨"ServerLineModel", "nearest", "(I)I"⟩, 29), (⟨"ServerLineModel", "sends", "(II)V"⟩, 29), (⟨"ServerLineModel", "both", "(I)V"⟩, 29), (⟨"ServerLineModel", "nearestOn", "(IZ)I"⟩, 29), (⟨"ServerLineModel", "goesByWork", "(I)V"⟩, 29), (⟨"ServerLineModel", "worksOn", "(I)V"⟩, 29), (⟨"ServerLineModel", "hintAt", "(I)I"⟩, 29), (⟨"ServerLineModel", "least", "(IIIIII)I"⟩, 29), (⟨"ServerLineModel", "runs", "(II)V"⟩, 29)]
theorem lw_r3 : ∀ q ∈ lw_privs_3, lw_okq q := List.forall_mem_cons.mpr ⟨lw_p32, List.forall_mem_cons.mpr ⟨lw_p33, List.forall_mem_cons.mpr ⟨lw_p34, List.forall_mem_cons.mpr ⟨lw_p35, List.forall_mem_cons.mpr ⟨lw_p36, List.forall_mem_cons.mpr ⟨lw_p37, List.forall_mem_cons.mpr ⟨lw_p38, List.forall_mem_cons.mpr ⟨lw_p39, List.forall_mem_cons.mpr ⟨lw_p40, List.forall_mem_cons.mpr ⟨lw_p41, List.forall_mem_cons.mpr ⟨lw_p42, List.forall_mem_cons.mpr ⟨lw_p43, List.forall_mem_cons.mpr ⟨lw_p44, List.forall_mem_cons.mpr ⟨lw_p45, List.forall_mem_cons.mpr ⟨lw_p46, List.forall_mem_cons.mpr ⟨lw_p47, fun _ h => absurd h List.not_mem_nil⟩⟩⟩⟩⟩⟩⟩⟩⟩⟩⟩⟩⟩⟩⟩⟩
theorem lw_p48 : lw_okq (⟨"ServerLineModel", "worksFirst", "()V"⟩, 29) := ⟨⟨by decide +kernel, by decide +kernel⟩, List.mem_of_getElem? (i := 811) (by decide +kernel), List.mem_of_getElem? (i := 1044) (by decide +kernel), List.mem_of_getElem? (i := 1045) (by decide +kernel)⟩
theorem lw_p49 : lw_okq (⟨"ServerLineModel", "seeks", "(II)V"⟩, 29) := ⟨⟨by decide +kernel, by decide +kernel⟩, List.mem_of_getElem? (i := 811) (by decide +kernel), List.mem_of_getElem? (i := 1072) (by decide +kernel), List.mem_of_getElem? (i := 1073) (by decide +kernel)⟩
theorem lw_p50 : lw_okq (⟨"ServerLineModel", "standingAt", "(I)I"⟩, 29) := ⟨⟨by decide +kernel, by decide +kernel⟩, List.mem_of_getElem? (i := 811) (by decide +kernel), List.mem_of_getElem? (i := 1084) (by decide +kernel), List.mem_of_getElem? (i := 1085) (by decide +kernel)⟩
theorem lw_p51 : lw_okq (⟨"ServerLineModel", "longs", "(I)I"⟩, 29) := ⟨⟨by decide +kernel, by decide +kernel⟩, List.mem_of_getElem? (i := 811) (by decide +kernel), List.mem_of_getElem? (i := 1088) (by decide +kernel), List.mem_of_getElem? (i := 1089) (by decide +kernel)⟩
theorem lw_p52 : lw_okq (⟨"ServerLineModel", "paysNot", "()I"⟩, 29) := ⟨⟨by decide +kernel, by decide +kernel⟩, List.mem_of_getElem? (i := 811) (by decide +kernel), List.mem_of_getElem? (i := 1096) (by decide +kernel), List.mem_of_getElem? (i := 1097) (by decide +kernel)⟩
theorem lw_p53 : lw_okq (⟨"ServerLineModel", "meets", "(I)I"⟩, 29) := ⟨⟨by decide +kernel, by decide +kernel⟩, List.mem_of_getElem? (i := 811) (by decide +kernel), List.mem_of_getElem? (i := 1107) (by decide +kernel), List.mem_of_getElem? (i := 1108) (by decide +kernel)⟩
theorem lw_p54 : lw_okq (⟨"ServerLineModel", "lacks", "(III)I"⟩, 29) := ⟨⟨by decide +kernel, by decide +kernel⟩, List.mem_of_getElem? (i := 811) (by decide +kernel), List.mem_of_getElem? (i := 1119) (by decide +kernel), List.mem_of_getElem? (i := 1120) (by decide +kernel)⟩
def lw_privs_4 : List (MethodName × Nat) := [(⟨"ServerLineModel", "worksFirst", "()V"⟩, 29), (⟨"ServerLineModel", "seeks", "(II)V"⟩, 29), (⟨"ServerLineModel", "standingAt", "(I)I"⟩, 29), (⟨"ServerLineModel", "longs", "(I)I"⟩, 29), (⟨"ServerLineModel", "paysNot", "()I"⟩, 29), (⟨"ServerLineModel", "meets", "(I)I"⟩, 29), (⟨"ServerLineModel", "lacks", "(III)I"⟩, 29)]
theorem lw_r4 : ∀ q ∈ lw_privs_4, lw_okq q := List.forall_mem_cons.mpr ⟨lw_p48, List.forall_mem_cons.mpr ⟨lw_p49, List.forall_mem_cons.mpr ⟨lw_p50, List.forall_mem_cons.mpr ⟨lw_p51, List.forall_mem_cons.mpr ⟨lw_p52, List.forall_mem_cons.mpr ⟨lw_p53, List.forall_mem_cons.mpr ⟨lw_p54, fun _ h => absurd h List.not_mem_nil⟩⟩⟩⟩⟩⟩⟩
def lw_privs : List (MethodName × Nat) := lw_privs_1 ++ (lw_privs_2 ++ (lw_privs_3 ++ (lw_privs_4)))
def lw_tbl : List Cond := k2_sels lw_privs ++ tables_1
theorem lw_privs_ok : ∀ q ∈ lw_privs, lw_okq q := by
  show ∀ q ∈ lw_privs_1 ++ (lw_privs_2 ++ (lw_privs_3 ++ (lw_privs_4))), lw_okq q
  exact List.forall_mem_append.mpr ⟨lw_r1, List.forall_mem_append.mpr ⟨lw_r2, List.forall_mem_append.mpr ⟨lw_r3, lw_r4⟩⟩⟩
def RX0 : String := "ServerLine$Ahead"
def TX0 : u_T := fun k => match k with
  | 0 => ("ServerLine$Rule", "line", "LServerLine$Line;", true)
  | 1 => ("ServerLine$Rule", "at", "[I", true)
  | 2 => ("ServerLine$Rule", "spent", "I", false)
  | 3 => ("ServerLine$Rule", "gone", "I", false)
  | 4 => ("ServerLine$Ahead", "toGo", "[[I", true)
  | 5 => ("ServerLine$Ahead", "leastSum", "I", false)
  | 6 => ("ServerLine$Ahead", "standing", "I", false)
  | _ => ("ServerLine$Ahead", "step", "I", false)
def tyX0 : Nat → FieldType := fun k => match k with
  | 0 => .object "ServerLine$Line"
  | 1 => .array .int
  | 2 => .int
  | 3 => .int
  | 4 => .array (.array .int)
  | 5 => .int
  | 6 => .int
  | _ => .int
abbrev wsX00 : List Cond := u_ws RX0 TX0 8
theorem nmX0 : ∀ a, a < 8 → ∀ b, b < 8 → a ≠ b → (TX0 a).2.1 ≠ (TX0 b).2.1 := by decide +kernel
theorem tyX0_ok : ∀ k, k < 8 → parseFieldDescriptor (TX0 k).2.2.1 = some (tyX0 k) := by decide +kernel
abbrev cX0_init : ByteArray := prog_2_method_1_code
def yX0_init : MethodName := ⟨RX0, "<init>", "(LServerLine$Line;)V"⟩
abbrev cX0_plan : ByteArray := prog_2_method_2_code
def yX0_plan : MethodName := ⟨RX0, "plan", "(LServerLine$Row;)I"⟩
abbrev cX0_planStep : ByteArray := prog_2_method_3_code
def yX0_planStep : MethodName := ⟨RX0, "planStep", "(II)V"⟩
abbrev cX0_chosen : ByteArray := prog_2_method_4_code
def yX0_chosen : MethodName := ⟨RX0, "chosen", "(III)I"⟩
abbrev cX0_standAtStart : ByteArray := prog_2_method_5_code
def yX0_standAtStart : MethodName := ⟨RX0, "standAtStart", "()V"⟩
abbrev cX0_meet : ByteArray := prog_2_method_6_code
def yX0_meet : MethodName := ⟨RX0, "meet", "(II)V"⟩
def RX1 : String := "ServerLine$Both"
def TX1 : u_T := fun k => match k with
  | 0 => ("ServerLine$Rule", "line", "LServerLine$Line;", true)
  | 1 => ("ServerLine$Rule", "at", "[I", true)
  | 2 => ("ServerLine$Rule", "spent", "I", false)
  | _ => ("ServerLine$Rule", "gone", "I", false)
def tyX1 : Nat → FieldType := fun k => match k with
  | 0 => .object "ServerLine$Line"
  | 1 => .array .int
  | 2 => .int
  | _ => .int
abbrev wsX10 : List Cond := u_ws RX1 TX1 4
theorem nmX1 : ∀ a, a < 4 → ∀ b, b < 4 → a ≠ b → (TX1 a).2.1 ≠ (TX1 b).2.1 := by decide +kernel
theorem tyX1_ok : ∀ k, k < 4 → parseFieldDescriptor (TX1 k).2.2.1 = some (tyX1 k) := by decide +kernel
abbrev cX1_init : ByteArray := prog_3_method_1_code
def yX1_init : MethodName := ⟨RX1, "<init>", "(LServerLine$Line;)V"⟩
abbrev cX1_meet : ByteArray := prog_3_method_2_code
def yX1_meet : MethodName := ⟨RX1, "meet", "(II)V"⟩
abbrev cX1_isServed : ByteArray := prog_3_method_3_code
def yX1_isServed : MethodName := ⟨RX1, "isServed", "(I)Z"⟩
abbrev cX1_nearestBelow : ByteArray := prog_3_method_4_code
def yX1_nearestBelow : MethodName := ⟨RX1, "nearestBelow", "(I)I"⟩
abbrev cX1_nearestAbove : ByteArray := prog_3_method_5_code
def yX1_nearestAbove : MethodName := ⟨RX1, "nearestAbove", "(I)I"⟩
def RX2 : String := "ServerLine$Guarded"
def TX2 : u_T := fun k => match k with
  | 0 => ("ServerLine$Rule", "line", "LServerLine$Line;", true)
  | 1 => ("ServerLine$Rule", "at", "[I", true)
  | 2 => ("ServerLine$Rule", "spent", "I", false)
  | 3 => ("ServerLine$Rule", "gone", "I", false)
  | 4 => ("ServerLine$Guarded", "both", "LServerLine$Both;", true)
  | 5 => ("ServerLine$Guarded", "hinted", "LServerLine$Nearest;", true)
  | _ => ("ServerLine$Guarded", "trusted", "I", false)
def tyX2 : Nat → FieldType := fun k => match k with
  | 0 => .object "ServerLine$Line"
  | 1 => .array .int
  | 2 => .int
  | 3 => .int
  | 4 => .object "ServerLine$Both"
  | 5 => .object "ServerLine$Nearest"
  | _ => .int
abbrev wsX20 : List Cond := u_ws RX2 TX2 7
theorem nmX2 : ∀ a, a < 7 → ∀ b, b < 7 → a ≠ b → (TX2 a).2.1 ≠ (TX2 b).2.1 := by decide +kernel
theorem tyX2_ok : ∀ k, k < 7 → parseFieldDescriptor (TX2 k).2.2.1 = some (tyX2 k) := by decide +kernel
abbrev cX2_init : ByteArray := prog_4_method_1_code
def yX2_init : MethodName := ⟨RX2, "<init>", "(LServerLine$Line;)V"⟩
abbrev cX2_standAtStart : ByteArray := prog_4_method_2_code
def yX2_standAtStart : MethodName := ⟨RX2, "standAtStart", "()V"⟩
abbrev cX2_meet : ByteArray := prog_4_method_3_code
def yX2_meet : MethodName := ⟨RX2, "meet", "(II)V"⟩
abbrev cX2_isTooDear : ByteArray := prog_4_method_4_code
def yX2_isTooDear : MethodName := ⟨RX2, "isTooDear", "(LServerLine$Rule;LServerLine$Rule;)Z"⟩
abbrev cX2_standAs : ByteArray := prog_4_method_5_code
def yX2_standAs : MethodName := ⟨RX2, "standAs", "(LServerLine$Rule;)V"⟩
def RX3 : String := "ServerLine$Line"
def TX3 : u_T := fun k => match k with
  | 0 => ("ServerLine$Line", "pointCount", "I", false)
  | 1 => ("ServerLine$Line", "serverCount", "I", false)
  | 2 => ("ServerLine$Line", "guardFactor", "I", false)
  | 3 => ("ServerLine$Line", "crowdCount", "I", false)
  | 4 => ("ServerLine$Line", "places", "[I", true)
  | 5 => ("ServerLine$Line", "starts", "[I", true)
  | 6 => ("ServerLine$Line", "crowds", "[I", true)
  | _ => ("ServerLine$Line", "crowdStandings", "[I", true)
def tyX3 : Nat → FieldType := fun k => match k with
  | 0 => .int
  | 1 => .int
  | 2 => .int
  | 3 => .int
  | 4 => .array .int
  | 5 => .array .int
  | 6 => .array .int
  | _ => .array .int
abbrev wsX30 : List Cond := u_ws RX3 TX3 8
theorem nmX3 : ∀ a, a < 8 → ∀ b, b < 8 → a ≠ b → (TX3 a).2.1 ≠ (TX3 b).2.1 := by decide +kernel
theorem tyX3_ok : ∀ k, k < 8 → parseFieldDescriptor (TX3 k).2.2.1 = some (tyX3 k) := by decide +kernel
abbrev cX3_init : ByteArray := prog_5_method_1_code
def yX3_init : MethodName := ⟨RX3, "<init>", "()V"⟩
abbrev cX3_resizePoints : ByteArray := prog_5_method_2_code
def yX3_resizePoints : MethodName := ⟨RX3, "resizePoints", "(I)V"⟩
abbrev cX3_resizeServers : ByteArray := prog_5_method_3_code
def yX3_resizeServers : MethodName := ⟨RX3, "resizeServers", "(I)V"⟩
abbrev cX3_numberCrowds : ByteArray := prog_5_method_4_code
def yX3_numberCrowds : MethodName := ⟨RX3, "numberCrowds", "()V"⟩
abbrev cX3_listCrowds : ByteArray := prog_5_method_5_code
def yX3_listCrowds : MethodName := ⟨RX3, "listCrowds", "()V"⟩
abbrev cX3_choicesOf : ByteArray := prog_5_method_6_code
def yX3_choicesOf : MethodName := ⟨RX3, "choicesOf", "(I)I"⟩
abbrev cX3_coded : ByteArray := prog_5_method_7_code
def yX3_coded : MethodName := ⟨RX3, "coded", "(III)I"⟩
abbrev cX3_standingOf : ByteArray := prog_5_method_8_code
def yX3_standingOf : MethodName := ⟨RX3, "standingOf", "(III)I"⟩
abbrev cX3_startStanding : ByteArray := prog_5_method_9_code
def yX3_startStanding : MethodName := ⟨RX3, "startStanding", "()I"⟩
abbrev cX3_pointOf : ByteArray := prog_5_method_10_code
def yX3_pointOf : MethodName := ⟨RX3, "pointOf", "(II)I"⟩
abbrev cX3_moved : ByteArray := prog_5_method_11_code
def yX3_moved : MethodName := ⟨RX3, "moved", "(III)I"⟩
abbrev cX3_wayOf : ByteArray := prog_5_method_12_code
def yX3_wayOf : MethodName := ⟨RX3, "wayOf", "(III)I"⟩
abbrev cX3_leastWays : ByteArray := prog_5_method_13_code
def yX3_leastWays : MethodName := ⟨RX3, "leastWays", "([I[I)I"⟩
abbrev cX3_pairWays : ByteArray := prog_5_method_14_code
def yX3_pairWays : MethodName := ⟨RX3, "pairWays", "(IIII)I"⟩
abbrev cX3_waysAmong : ByteArray := prog_5_method_15_code
def yX3_waysAmong : MethodName := ⟨RX3, "waysAmong", "([I)I"⟩
def RX4 : String := "ServerLine$Longing"
def TX4 : u_T := fun k => match k with
  | 0 => ("ServerLine$Longing", "line", "LServerLine$Line;", true)
  | 1 => ("ServerLine$Longing", "both", "LServerLine$Both;", true)
  | _ => ("ServerLine$Longing", "ahead", "LServerLine$Ahead;", true)
def tyX4 : Nat → FieldType := fun k => match k with
  | 0 => .object "ServerLine$Line"
  | 1 => .object "ServerLine$Both"
  | _ => .object "ServerLine$Ahead"
abbrev wsX40 : List Cond := u_ws RX4 TX4 3
theorem nmX4 : ∀ a, a < 3 → ∀ b, b < 3 → a ≠ b → (TX4 a).2.1 ≠ (TX4 b).2.1 := by decide +kernel
theorem tyX4_ok : ∀ k, k < 3 → parseFieldDescriptor (TX4 k).2.2.1 = some (tyX4 k) := by decide +kernel
abbrev cX4_init : ByteArray := prog_6_method_1_code
def yX4_init : MethodName := ⟨RX4, "<init>", "(LServerLine$Line;LServerLine$Ahead;)V"⟩
abbrev cX4_behind : ByteArray := prog_6_method_2_code
def yX4_behind : MethodName := ⟨RX4, "behind", "(LServerLine$Row;I)I"⟩
abbrev cX4_firstUnpaid : ByteArray := prog_6_method_3_code
def yX4_firstUnpaid : MethodName := ⟨RX4, "firstUnpaid", "(LServerLine$Row;)I"⟩
abbrev cX4_paysAt : ByteArray := prog_6_method_4_code
def yX4_paysAt : MethodName := ⟨RX4, "paysAt", "(I)Z"⟩
abbrev cX4_stored : ByteArray := prog_6_method_5_code
def yX4_stored : MethodName := ⟨RX4, "stored", "()I"⟩
def RX5 : String := "ServerLine$Nearest"
def TX5 : u_T := fun k => match k with
  | 0 => ("ServerLine$Rule", "line", "LServerLine$Line;", true)
  | 1 => ("ServerLine$Rule", "at", "[I", true)
  | 2 => ("ServerLine$Rule", "spent", "I", false)
  | 3 => ("ServerLine$Rule", "gone", "I", false)
  | _ => ("ServerLine$Nearest", "heedsHints", "Z", true)
def tyX5 : Nat → FieldType := fun k => match k with
  | 0 => .object "ServerLine$Line"
  | 1 => .array .int
  | 2 => .int
  | 3 => .int
  | _ => .boolean
abbrev wsX50 : List Cond := u_ws RX5 TX5 5
theorem nmX5 : ∀ a, a < 5 → ∀ b, b < 5 → a ≠ b → (TX5 a).2.1 ≠ (TX5 b).2.1 := by decide +kernel
theorem tyX5_ok : ∀ k, k < 5 → parseFieldDescriptor (TX5 k).2.2.1 = some (tyX5 k) := by decide +kernel
abbrev cX5_init : ByteArray := prog_7_method_1_code
def yX5_init : MethodName := ⟨RX5, "<init>", "(LServerLine$Line;Z)V"⟩
abbrev cX5_meet : ByteArray := prog_7_method_2_code
def yX5_meet : MethodName := ⟨RX5, "meet", "(II)V"⟩
abbrev cX5_nearestTo : ByteArray := prog_7_method_3_code
def yX5_nearestTo : MethodName := ⟨RX5, "nearestTo", "(I)I"⟩
def RX6 : String := "ServerLine$Row"
def TX6 : u_T := fun k => match k with
  | 0 => ("ServerLine$Row", "points", "[I", true)
  | 1 => ("ServerLine$Row", "hints", "[I", true)
  | _ => ("ServerLine$Row", "length", "I", false)
def tyX6 : Nat → FieldType := fun k => match k with
  | 0 => .array .int
  | 1 => .array .int
  | _ => .int
abbrev wsX60 : List Cond := u_ws RX6 TX6 3
theorem nmX6 : ∀ a, a < 3 → ∀ b, b < 3 → a ≠ b → (TX6 a).2.1 ≠ (TX6 b).2.1 := by decide +kernel
theorem tyX6_ok : ∀ k, k < 3 → parseFieldDescriptor (TX6 k).2.2.1 = some (tyX6 k) := by decide +kernel
abbrev cX6_init : ByteArray := prog_8_method_1_code
def yX6_init : MethodName := ⟨RX6, "<init>", "()V"⟩
abbrev cX6_read : ByteArray := prog_8_method_2_code
def yX6_read : MethodName := ⟨RX6, "read", "(LServerLine$Sheets;LServerLine$Line;)Z"⟩
abbrev cX6_hintAt : ByteArray := prog_8_method_3_code
def yX6_hintAt : MethodName := ⟨RX6, "hintAt", "(LServerLine$Sheets;LServerLine$Line;I)I"⟩
abbrev cX6_lead : ByteArray := prog_8_method_4_code
def yX6_lead : MethodName := ⟨RX6, "lead", "(LServerLine$Rule;I)I"⟩
def RX7 : String := "ServerLine$Rule"
def TX7 : u_T := fun k => match k with
  | _ => ("", "", "", false)
def tyX7 : Nat → FieldType := fun k => match k with
  | _ => .int
abbrev wsX70 : List Cond := u_ws RX7 TX7 0
theorem nmX7 : ∀ a, a < 0 → ∀ b, b < 0 → a ≠ b → (TX7 a).2.1 ≠ (TX7 b).2.1 := by decide +kernel
theorem tyX7_ok : ∀ k, k < 0 → parseFieldDescriptor (TX7 k).2.2.1 = some (tyX7 k) := by decide +kernel
abbrev cX7_init : ByteArray := prog_9_method_1_code
def yX7_init : MethodName := ⟨RX7, "<init>", "(LServerLine$Line;)V"⟩
abbrev cX7_begin : ByteArray := prog_9_method_2_code
def yX7_begin : MethodName := ⟨RX7, "begin", "()V"⟩
abbrev cX7_standAtStart : ByteArray := prog_9_method_3_code
def yX7_standAtStart : MethodName := ⟨RX7, "standAtStart", "()V"⟩
abbrev cX7_send : ByteArray := prog_9_method_5_code
def yX7_send : MethodName := ⟨RX7, "send", "(II)V"⟩
def RX8 : String := "ServerLine$Sheets"
def TX8 : u_T := fun k => match k with
  | 0 => ("ServerLine$Sheets", "items", "[[I", true)
  | 1 => ("ServerLine$Sheets", "forms", "[I", true)
  | 2 => ("ServerLine$Sheets", "sizes", "[I", true)
  | _ => ("ServerLine$Sheets", "finding", "I", false)
def tyX8 : Nat → FieldType := fun k => match k with
  | 0 => .array (.array .int)
  | 1 => .array .int
  | 2 => .array .int
  | _ => .int
abbrev wsX80 : List Cond := u_ws RX8 TX8 4
theorem nmX8 : ∀ a, a < 4 → ∀ b, b < 4 → a ≠ b → (TX8 a).2.1 ≠ (TX8 b).2.1 := by decide +kernel
theorem tyX8_ok : ∀ k, k < 4 → parseFieldDescriptor (TX8 k).2.2.1 = some (tyX8 k) := by decide +kernel
abbrev cX8_init : ByteArray := prog_10_method_1_code
def yX8_init : MethodName := ⟨RX8, "<init>", "()V"⟩
abbrev cX8_found : ByteArray := prog_10_method_2_code
def yX8_found : MethodName := ⟨RX8, "found", "(I)I"⟩
abbrev cX8_isLost : ByteArray := prog_10_method_3_code
def yX8_isLost : MethodName := ⟨RX8, "isLost", "(I)Z"⟩
abbrev cX8_keptCount : ByteArray := prog_10_method_4_code
def yX8_keptCount : MethodName := ⟨RX8, "keptCount", "()I"⟩
abbrev cX8_renew : ByteArray := prog_10_method_5_code
def yX8_renew : MethodName := ⟨RX8, "renew", "(III)V"⟩
abbrev cX8_drop : ByteArray := prog_10_method_6_code
def yX8_drop : MethodName := ⟨RX8, "drop", "(I)V"⟩
abbrev cX8_hasItems : ByteArray := prog_10_method_7_code
def yX8_hasItems : MethodName := ⟨RX8, "hasItems", "(III)Z"⟩
abbrev cX8_write : ByteArray := prog_10_method_8_code
def yX8_write : MethodName := ⟨RX8, "write", "(III)V"⟩
abbrev cX8_cut : ByteArray := prog_10_method_9_code
def yX8_cut : MethodName := ⟨RX8, "cut", "(II)I"⟩
def RX9 : String := "ServerLine$Work"
def TX9 : u_T := fun k => match k with
  | 0 => ("ServerLine$Rule", "line", "LServerLine$Line;", true)
  | 1 => ("ServerLine$Rule", "at", "[I", true)
  | 2 => ("ServerLine$Rule", "spent", "I", false)
  | 3 => ("ServerLine$Rule", "gone", "I", false)
  | 4 => ("ServerLine$Work", "late", "[I", true)
  | 5 => ("ServerLine$Work", "lateCount", "I", false)
  | 6 => ("ServerLine$Work", "standing", "I", false)
  | 7 => ("ServerLine$Work", "settled", "[I", false)
  | 8 => ("ServerLine$Work", "spare", "[I", false)
  | _ => ("ServerLine$Work", "aim", "[I", true)
def tyX9 : Nat → FieldType := fun k => match k with
  | 0 => .object "ServerLine$Line"
  | 1 => .array .int
  | 2 => .int
  | 3 => .int
  | 4 => .array .int
  | 5 => .int
  | 6 => .int
  | 7 => .array .int
  | 8 => .array .int
  | _ => .array .int
abbrev wsX90 : List Cond := u_ws RX9 TX9 10
theorem nmX9 : ∀ a, a < 10 → ∀ b, b < 10 → a ≠ b → (TX9 a).2.1 ≠ (TX9 b).2.1 := by decide +kernel
theorem tyX9_ok : ∀ k, k < 10 → parseFieldDescriptor (TX9 k).2.2.1 = some (tyX9 k) := by decide +kernel
abbrev cX9_init : ByteArray := prog_11_method_1_code
def yX9_init : MethodName := ⟨RX9, "<init>", "(LServerLine$Line;I)V"⟩
abbrev cX9_begin : ByteArray := prog_11_method_2_code
def yX9_begin : MethodName := ⟨RX9, "begin", "()V"⟩
abbrev cX9_standAtStart : ByteArray := prog_11_method_3_code
def yX9_standAtStart : MethodName := ⟨RX9, "standAtStart", "()V"⟩
abbrev cX9_worth : ByteArray := prog_11_method_4_code
def yX9_worth : MethodName := ⟨RX9, "worth", "(I)I"⟩
abbrev cX9_worthBehind : ByteArray := prog_11_method_5_code
def yX9_worthBehind : MethodName := ⟨RX9, "worthBehind", "(II)I"⟩
abbrev cX9_settle : ByteArray := prog_11_method_6_code
def yX9_settle : MethodName := ⟨RX9, "settle", "()V"⟩
abbrev cX9_meet : ByteArray := prog_11_method_7_code
def yX9_meet : MethodName := ⟨RX9, "meet", "(II)V"⟩
abbrev cX9_chosen : ByteArray := prog_11_method_8_code
def yX9_chosen : MethodName := ⟨RX9, "chosen", "(I)I"⟩
def RX10 : String := "ServerLine$WorstSearch"
def TX10 : u_T := fun k => match k with
  | 0 => ("ServerLine$WorstSearch", "line", "LServerLine$Line;", true)
  | 1 => ("ServerLine$WorstSearch", "tried", "[LServerLine$Rule;", true)
  | 2 => ("ServerLine$WorstSearch", "points", "[I", true)
  | 3 => ("ServerLine$WorstSearch", "at", "[I", true)
  | 4 => ("ServerLine$WorstSearch", "number", "I", false)
  | 5 => ("ServerLine$WorstSearch", "spent", "I", false)
  | _ => ("ServerLine$WorstSearch", "least", "I", false)
def tyX10 : Nat → FieldType := fun k => match k with
  | 0 => .object "ServerLine$Line"
  | 1 => .array (.object "ServerLine$Rule")
  | 2 => .array .int
  | 3 => .array .int
  | 4 => .int
  | 5 => .int
  | _ => .int
abbrev wsX100 : List Cond := u_ws RX10 TX10 7
theorem nmX10 : ∀ a, a < 7 → ∀ b, b < 7 → a ≠ b → (TX10 a).2.1 ≠ (TX10 b).2.1 := by decide +kernel
theorem tyX10_ok : ∀ k, k < 7 → parseFieldDescriptor (TX10 k).2.2.1 = some (tyX10 k) := by decide +kernel
abbrev cX10_init : ByteArray := prog_12_method_1_code
def yX10_init : MethodName := ⟨RX10, "<init>", "(LServerLine$Line;)V"⟩
abbrev cX10_seek : ByteArray := prog_12_method_2_code
def yX10_seek : MethodName := ⟨RX10, "seek", "(II)V"⟩
abbrev cX10_turnToNextRow : ByteArray := prog_12_method_3_code
def yX10_turnToNextRow : MethodName := ⟨RX10, "turnToNextRow", "(I)Z"⟩
abbrev cX10_weigh : ByteArray := prog_12_method_4_code
def yX10_weigh : MethodName := ⟨RX10, "weigh", "(LServerLine$Rule;II)V"⟩
abbrev cX10_leastFrom : ByteArray := prog_12_method_5_code
def yX10_leastFrom : MethodName := ⟨RX10, "leastFrom", "(II)I"⟩
def RX11 : String := "ServerLine"
def TX11 : u_T := fun k => match k with
  | 0 => ("ServerLine", "line", "LServerLine$Line;", true)
  | 1 => ("ServerLine", "sheets", "LServerLine$Sheets;", true)
  | 2 => ("ServerLine", "row", "LServerLine$Row;", true)
  | 3 => ("ServerLine", "rules", "[LServerLine$Rule;", true)
  | 4 => ("ServerLine", "workRule", "LServerLine$Work;", true)
  | 5 => ("ServerLine", "guardedRule", "LServerLine$Guarded;", true)
  | 6 => ("ServerLine", "ahead", "LServerLine$Ahead;", true)
  | 7 => ("ServerLine", "store", "LServerLine$Longing;", true)
  | _ => ("ServerLine", "search", "LServerLine$WorstSearch;", true)
def tyX11 : Nat → FieldType := fun k => match k with
  | 0 => .object "ServerLine$Line"
  | 1 => .object "ServerLine$Sheets"
  | 2 => .object "ServerLine$Row"
  | 3 => .array (.object "ServerLine$Rule")
  | 4 => .object "ServerLine$Work"
  | 5 => .object "ServerLine$Guarded"
  | 6 => .object "ServerLine$Ahead"
  | 7 => .object "ServerLine$Longing"
  | _ => .object "ServerLine$WorstSearch"
abbrev wsX110 : List Cond := u_ws RX11 TX11 9
theorem nmX11 : ∀ a, a < 9 → ∀ b, b < 9 → a ≠ b → (TX11 a).2.1 ≠ (TX11 b).2.1 := by decide +kernel
theorem tyX11_ok : ∀ k, k < 9 → parseFieldDescriptor (TX11 k).2.2.1 = some (tyX11 k) := by decide +kernel
abbrev cX11_init : ByteArray := prog_1_method_1_code
def yX11_init : MethodName := ⟨RX11, "<init>", "()V"⟩
abbrev cX11_points : ByteArray := prog_1_method_2_code
def yX11_points : MethodName := ⟨RX11, "points", "(I)I"⟩
abbrev cX11_place : ByteArray := prog_1_method_3_code
def yX11_place : MethodName := ⟨RX11, "place", "(II)I"⟩
abbrev cX11_servers : ByteArray := prog_1_method_4_code
def yX11_servers : MethodName := ⟨RX11, "servers", "(I)I"⟩
abbrev cX11_start : ByteArray := prog_1_method_5_code
def yX11_start : MethodName := ⟨RX11, "start", "(II)I"⟩
abbrev cX11_factor : ByteArray := prog_1_method_6_code
def yX11_factor : MethodName := ⟨RX11, "factor", "(I)I"⟩
abbrev cX11_asked : ByteArray := prog_1_method_7_code
def yX11_asked : MethodName := ⟨RX11, "asked", "()I"⟩
abbrev cX11_cost : ByteArray := prog_1_method_8_code
def yX11_cost : MethodName := ⟨RX11, "cost", "(I)I"⟩
abbrev cX11_stands : ByteArray := prog_1_method_9_code
def yX11_stands : MethodName := ⟨RX11, "stands", "(III)I"⟩
abbrev cX11_goes : ByteArray := prog_1_method_10_code
def yX11_goes : MethodName := ⟨RX11, "goes", "(II)I"⟩
abbrev cX11_best : ByteArray := prog_1_method_11_code
def yX11_best : MethodName := ⟨RX11, "best", "()I"⟩
abbrev cX11_way : ByteArray := prog_1_method_12_code
def yX11_way : MethodName := ⟨RX11, "way", "(I)I"⟩
abbrev cX11_share : ByteArray := prog_1_method_13_code
def yX11_share : MethodName := ⟨RX11, "share", "(I)I"⟩
abbrev cX11_work : ByteArray := prog_1_method_14_code
def yX11_work : MethodName := ⟨RX11, "work", "(IIII)I"⟩
abbrev cX11_trusts : ByteArray := prog_1_method_15_code
def yX11_trusts : MethodName := ⟨RX11, "trusts", "(I)I"⟩
abbrev cX11_worst : ByteArray := prog_1_method_16_code
def yX11_worst : MethodName := ⟨RX11, "worst", "(II)I"⟩
abbrev cX11_worstShare : ByteArray := prog_1_method_17_code
def yX11_worstShare : MethodName := ⟨RX11, "worstShare", "(II)I"⟩
abbrev cX11_longing : ByteArray := prog_1_method_18_code
def yX11_longing : MethodName := ⟨RX11, "longing", "(I)I"⟩
abbrev cX11_pays : ByteArray := prog_1_method_19_code
def yX11_pays : MethodName := ⟨RX11, "pays", "()I"⟩
abbrev cX11_sheet : ByteArray := prog_1_method_20_code
def yX11_sheet : MethodName := ⟨RX11, "sheet", "(III)I"⟩
abbrev cX11_lose : ByteArray := prog_1_method_21_code
def yX11_lose : MethodName := ⟨RX11, "lose", "(I)I"⟩
abbrev cX11_put : ByteArray := prog_1_method_22_code
def yX11_put : MethodName := ⟨RX11, "put", "(IIII)I"⟩
abbrev cX11_get : ByteArray := prog_1_method_23_code
def yX11_get : MethodName := ⟨RX11, "get", "(III)I"⟩
abbrev cX11_copy : ByteArray := prog_1_method_24_code
def yX11_copy : MethodName := ⟨RX11, "copy", "(IIIII)I"⟩
abbrev cX11_hint : ByteArray := prog_1_method_25_code
def yX11_hint : MethodName := ⟨RX11, "hint", "()I"⟩
abbrev cX11_count : ByteArray := prog_1_method_26_code
def yX11_count : MethodName := ⟨RX11, "count", "(I)I"⟩
abbrev cX11_digest : ByteArray := prog_1_method_27_code
def yX11_digest : MethodName := ⟨RX11, "digest", "()J"⟩
abbrev cX11_isWithin : ByteArray := prog_1_method_28_code
def yX11_isWithin : MethodName := ⟨RX11, "isWithin", "(III)Z"⟩
abbrev cX11_isPoint : ByteArray := prog_1_method_29_code
def yX11_isPoint : MethodName := ⟨RX11, "isPoint", "(I)Z"⟩
abbrev cX11_isServer : ByteArray := prog_1_method_30_code
def yX11_isServer : MethodName := ⟨RX11, "isServer", "(I)Z"⟩
abbrev cX11_isSheet : ByteArray := prog_1_method_31_code
def yX11_isSheet : MethodName := ⟨RX11, "isSheet", "(I)Z"⟩
abbrev cX11_isForm : ByteArray := prog_1_method_32_code
def yX11_isForm : MethodName := ⟨RX11, "isForm", "(I)Z"⟩
abbrev cX11_isStandingPoint : ByteArray := prog_1_method_33_code
def yX11_isStandingPoint : MethodName := ⟨RX11, "isStandingPoint", "(II)Z"⟩
abbrev cX11_readRow : ByteArray := prog_1_method_34_code
def yX11_readRow : MethodName := ⟨RX11, "readRow", "()Z"⟩
abbrev cX11_sentAt : ByteArray := prog_1_method_35_code
def yX11_sentAt : MethodName := ⟨RX11, "sentAt", "(LServerLine$Rule;I)I"⟩
abbrev cX11_hundredths : ByteArray := prog_1_method_36_code
def yX11_hundredths : MethodName := ⟨RX11, "hundredths", "(II)I"⟩
abbrev cX11_itemRefusal : ByteArray := prog_1_method_37_code
def yX11_itemRefusal : MethodName := ⟨RX11, "itemRefusal", "(III)I"⟩
def RX12 : String := "ServerLineModel"
def TX12 : u_T := fun k => match k with
  | 0 => ("ServerLineModel", "points", "I", false)
  | 1 => ("ServerLineModel", "places", "[I", true)
  | 2 => ("ServerLineModel", "servers", "I", false)
  | 3 => ("ServerLineModel", "starts", "[I", true)
  | 4 => ("ServerLineModel", "factor", "I", false)
  | 5 => ("ServerLineModel", "many", "I", false)
  | 6 => ("ServerLineModel", "row", "[I", true)
  | 7 => ("ServerLineModel", "toGo", "[I", true)
  | 8 => ("ServerLineModel", "goesOf", "[I", true)
  | 9 => ("ServerLineModel", "at", "[I", true)
  | 10 => ("ServerLineModel", "standing", "I", false)
  | 11 => ("ServerLineModel", "spent", "I", false)
  | 12 => ("ServerLineModel", "went", "I", false)
  | 13 => ("ServerLineModel", "work", "[I", true)
  | 14 => ("ServerLineModel", "works", "[I", true)
  | 15 => ("ServerLineModel", "one", "[I", true)
  | 16 => ("ServerLineModel", "three", "[I", true)
  | 17 => ("ServerLineModel", "guarded", "[I", true)
  | 18 => ("ServerLineModel", "trusted", "I", false)
  | 19 => ("ServerLineModel", "guardedCost", "I", false)
  | 20 => ("ServerLineModel", "worstOf", "I", false)
  | 21 => ("ServerLineModel", "worstCost", "I", false)
  | 22 => ("ServerLineModel", "worstBest", "I", false)
  | 23 => ("ServerLineModel", "isThere", "[Z", true)
  | 24 => ("ServerLineModel", "forms", "[I", true)
  | 25 => ("ServerLineModel", "sizes", "[I", true)
  | 26 => ("ServerLineModel", "items", "[I", true)
  | 27 => ("ServerLineModel", "moved", "[I", true)
  | _ => ("ServerLineModel", "finding", "I", false)
def tyX12 : Nat → FieldType := fun k => match k with
  | 0 => .int
  | 1 => .array .int
  | 2 => .int
  | 3 => .array .int
  | 4 => .int
  | 5 => .int
  | 6 => .array .int
  | 7 => .array .int
  | 8 => .array .int
  | 9 => .array .int
  | 10 => .int
  | 11 => .int
  | 12 => .int
  | 13 => .array .int
  | 14 => .array .int
  | 15 => .array .int
  | 16 => .array .int
  | 17 => .array .int
  | 18 => .int
  | 19 => .int
  | 20 => .int
  | 21 => .int
  | 22 => .int
  | 23 => .array .boolean
  | 24 => .array .int
  | 25 => .array .int
  | 26 => .array .int
  | 27 => .array .int
  | _ => .int
abbrev wsX120 : List Cond := u_ws RX12 TX12 29
theorem nmX12 : ∀ a, a < 29 → ∀ b, b < 29 → a ≠ b → (TX12 a).2.1 ≠ (TX12 b).2.1 := by decide +kernel
theorem tyX12_ok : ∀ k, k < 29 → parseFieldDescriptor (TX12 k).2.2.1 = some (tyX12 k) := by decide +kernel
abbrev cX12_init : ByteArray := prog_14_method_1_code
def yX12_init : MethodName := ⟨RX12, "<init>", "()V"⟩
abbrev cX12_in : ByteArray := prog_14_method_3_code
def yX12_in : MethodName := ⟨RX12, "in", "(III)Z"⟩
abbrev cX12_apart : ByteArray := prog_14_method_4_code
def yX12_apart : MethodName := ⟨RX12, "apart", "(II)I"⟩
abbrev cX12_points : ByteArray := prog_14_method_5_code
def yX12_points : MethodName := ⟨RX12, "points", "(I)I"⟩
abbrev cX12_isPoint : ByteArray := prog_14_method_6_code
def yX12_isPoint : MethodName := ⟨RX12, "isPoint", "(I)Z"⟩
abbrev cX12_place : ByteArray := prog_14_method_7_code
def yX12_place : MethodName := ⟨RX12, "place", "(II)I"⟩
abbrev cX12_servers : ByteArray := prog_14_method_8_code
def yX12_servers : MethodName := ⟨RX12, "servers", "(I)I"⟩
abbrev cX12_start : ByteArray := prog_14_method_9_code
def yX12_start : MethodName := ⟨RX12, "start", "(II)I"⟩
abbrev cX12_factor : ByteArray := prog_14_method_10_code
def yX12_factor : MethodName := ⟨RX12, "factor", "(I)I"⟩
abbrev cX12_reads : ByteArray := prog_14_method_11_code
def yX12_reads : MethodName := ⟨RX12, "reads", "()Z"⟩
abbrev cX12_hintAt : ByteArray := prog_14_method_12_code
def yX12_hintAt : MethodName := ⟨RX12, "hintAt", "(I)I"⟩
abbrev cX12_asked : ByteArray := prog_14_method_13_code
def yX12_asked : MethodName := ⟨RX12, "asked", "()I"⟩
abbrev cX12_pointOf : ByteArray := prog_14_method_14_code
def yX12_pointOf : MethodName := ⟨RX12, "pointOf", "(II)I"⟩
abbrev cX12_with : ByteArray := prog_14_method_15_code
def yX12_with : MethodName := ⟨RX12, "with", "(III)I"⟩
abbrev cX12_isStanding : ByteArray := prog_14_method_16_code
def yX12_isStanding : MethodName := ⟨RX12, "isStanding", "(I)Z"⟩
abbrev cX12_begin : ByteArray := prog_14_method_17_code
def yX12_begin : MethodName := ⟨RX12, "begin", "()I"⟩
abbrev cX12_least : ByteArray := prog_14_method_18_code
def yX12_least : MethodName := ⟨RX12, "least", "(IIIIII)I"⟩
abbrev cX12_plans : ByteArray := prog_14_method_19_code
def yX12_plans : MethodName := ⟨RX12, "plans", "()V"⟩
abbrev cX12_wayTo : ByteArray := prog_14_method_20_code
def yX12_wayTo : MethodName := ⟨RX12, "wayTo", "(III)I"⟩
abbrev cX12_bestCost : ByteArray := prog_14_method_21_code
def yX12_bestCost : MethodName := ⟨RX12, "bestCost", "()I"⟩
abbrev cX12_best : ByteArray := prog_14_method_22_code
def yX12_best : MethodName := ⟨RX12, "best", "()I"⟩
abbrev cX12_way : ByteArray := prog_14_method_23_code
def yX12_way : MethodName := ⟨RX12, "way", "(I)I"⟩
abbrev cX12_starts : ByteArray := prog_14_method_24_code
def yX12_starts : MethodName := ⟨RX12, "starts", "()V"⟩
abbrev cX12_sends : ByteArray := prog_14_method_25_code
def yX12_sends : MethodName := ⟨RX12, "sends", "(II)V"⟩
abbrev cX12_nearest : ByteArray := prog_14_method_26_code
def yX12_nearest : MethodName := ⟨RX12, "nearest", "(I)I"⟩
abbrev cX12_nearestOn : ByteArray := prog_14_method_27_code
def yX12_nearestOn : MethodName := ⟨RX12, "nearestOn", "(IZ)I"⟩
abbrev cX12_both : ByteArray := prog_14_method_28_code
def yX12_both : MethodName := ⟨RX12, "both", "(I)V"⟩
abbrev cX12_worksFirst : ByteArray := prog_14_method_29_code
def yX12_worksFirst : MethodName := ⟨RX12, "worksFirst", "()V"⟩
abbrev cX12_worksOn : ByteArray := prog_14_method_30_code
def yX12_worksOn : MethodName := ⟨RX12, "worksOn", "(I)V"⟩
abbrev cX12_goesByWork : ByteArray := prog_14_method_31_code
def yX12_goesByWork : MethodName := ⟨RX12, "goesByWork", "(I)V"⟩
abbrev cX12_goesOn : ByteArray := prog_14_method_32_code
def yX12_goesOn : MethodName := ⟨RX12, "goesOn", "(II)V"⟩
abbrev cX12_first : ByteArray := prog_14_method_33_code
def yX12_first : MethodName := ⟨RX12, "first", "(I)I"⟩
abbrev cX12_runs : ByteArray := prog_14_method_34_code
def yX12_runs : MethodName := ⟨RX12, "runs", "(II)V"⟩
abbrev cX12_keep : ByteArray := prog_14_method_35_code
def yX12_keep : MethodName := ⟨RX12, "keep", "([I[I)V"⟩
abbrev cX12_runsGuarded : ByteArray := prog_14_method_36_code
def yX12_runsGuarded : MethodName := ⟨RX12, "runsGuarded", "(I)V"⟩
abbrev cX12_costOf : ByteArray := prog_14_method_37_code
def yX12_costOf : MethodName := ⟨RX12, "costOf", "(I)I"⟩
abbrev cX12_cost : ByteArray := prog_14_method_38_code
def yX12_cost : MethodName := ⟨RX12, "cost", "(I)I"⟩
abbrev cX12_stands : ByteArray := prog_14_method_39_code
def yX12_stands : MethodName := ⟨RX12, "stands", "(III)I"⟩
abbrev cX12_goes : ByteArray := prog_14_method_40_code
def yX12_goes : MethodName := ⟨RX12, "goes", "(II)I"⟩
abbrev cX12_share : ByteArray := prog_14_method_41_code
def yX12_share : MethodName := ⟨RX12, "share", "(I)I"⟩
abbrev cX12_work : ByteArray := prog_14_method_42_code
def yX12_work : MethodName := ⟨RX12, "work", "(IIII)I"⟩
abbrev cX12_trusts : ByteArray := prog_14_method_43_code
def yX12_trusts : MethodName := ⟨RX12, "trusts", "(I)I"⟩
abbrev cX12_seeks : ByteArray := prog_14_method_44_code
def yX12_seeks : MethodName := ⟨RX12, "seeks", "(II)V"⟩
abbrev cX12_worst : ByteArray := prog_14_method_45_code
def yX12_worst : MethodName := ⟨RX12, "worst", "(II)I"⟩
abbrev cX12_worstShare : ByteArray := prog_14_method_46_code
def yX12_worstShare : MethodName := ⟨RX12, "worstShare", "(II)I"⟩
abbrev cX12_longs : ByteArray := prog_14_method_47_code
def yX12_longs : MethodName := ⟨RX12, "longs", "(I)I"⟩
abbrev cX12_standingAt : ByteArray := prog_14_method_48_code
def yX12_standingAt : MethodName := ⟨RX12, "standingAt", "(I)I"⟩
abbrev cX12_longing : ByteArray := prog_14_method_49_code
def yX12_longing : MethodName := ⟨RX12, "longing", "(I)I"⟩
abbrev cX12_paysNot : ByteArray := prog_14_method_50_code
def yX12_paysNot : MethodName := ⟨RX12, "paysNot", "()I"⟩
abbrev cX12_pays : ByteArray := prog_14_method_51_code
def yX12_pays : MethodName := ⟨RX12, "pays", "()I"⟩
abbrev cX12_meets : ByteArray := prog_14_method_52_code
def yX12_meets : MethodName := ⟨RX12, "meets", "(I)I"⟩
abbrev cX12_isSheet : ByteArray := prog_14_method_53_code
def yX12_isSheet : MethodName := ⟨RX12, "isSheet", "(I)Z"⟩
abbrev cX12_sheet : ByteArray := prog_14_method_54_code
def yX12_sheet : MethodName := ⟨RX12, "sheet", "(III)I"⟩
abbrev cX12_lose : ByteArray := prog_14_method_55_code
def yX12_lose : MethodName := ⟨RX12, "lose", "(I)I"⟩
abbrev cX12_lacks : ByteArray := prog_14_method_56_code
def yX12_lacks : MethodName := ⟨RX12, "lacks", "(III)I"⟩
abbrev cX12_put : ByteArray := prog_14_method_57_code
def yX12_put : MethodName := ⟨RX12, "put", "(IIII)I"⟩
abbrev cX12_get : ByteArray := prog_14_method_58_code
def yX12_get : MethodName := ⟨RX12, "get", "(III)I"⟩
abbrev cX12_copy : ByteArray := prog_14_method_59_code
def yX12_copy : MethodName := ⟨RX12, "copy", "(IIIII)I"⟩
abbrev cX12_hint : ByteArray := prog_14_method_60_code
def yX12_hint : MethodName := ⟨RX12, "hint", "()I"⟩
abbrev cX12_count : ByteArray := prog_14_method_61_code
def yX12_count : MethodName := ⟨RX12, "count", "(I)I"⟩
abbrev cX12_digest : ByteArray := prog_14_method_62_code
def yX12_digest : MethodName := ⟨RX12, "digest", "()J"⟩
def RJ9 : String := "java/lang/Math"
def TJ9 : u_T := fun k => match k with
  | _ => ("", "", "", false)
def tyJ9 : Nat → FieldType := fun k => match k with
  | _ => .int
abbrev wsJ90 : List Cond := u_ws RJ9 TJ9 0
theorem nmJ9 : ∀ a, a < 0 → ∀ b, b < 0 → a ≠ b → (TJ9 a).2.1 ≠ (TJ9 b).2.1 := by decide +kernel
theorem tyJ9_ok : ∀ k, k < 0 → parseFieldDescriptor (TJ9 k).2.2.1 = some (tyJ9 k) := by decide +kernel
abbrev cJ9_abs_0f7a4 : ByteArray := prog_15_method_59_code
def yJ9_abs_0f7a4 : MethodName := ⟨RJ9, "abs", "(I)I"⟩
abbrev cJ9_max_7cf53 : ByteArray := prog_15_method_65_code
def yJ9_max_7cf53 : MethodName := ⟨RJ9, "max", "(II)I"⟩
abbrev cJ9_min_7cf53 : ByteArray := prog_15_method_69_code
def yJ9_min_7cf53 : MethodName := ⟨RJ9, "min", "(II)I"⟩
def RJ10 : String := "java/lang/System"
def TJ10 : u_T := fun k => match k with
  | _ => ("", "", "", false)
def tyJ10 : Nat → FieldType := fun k => match k with
  | _ => .int
abbrev wsJ100 : List Cond := u_ws RJ10 TJ10 0
theorem nmJ10 : ∀ a, a < 0 → ∀ b, b < 0 → a ≠ b → (TJ10 a).2.1 ≠ (TJ10 b).2.1 := by decide +kernel
theorem tyJ10_ok : ∀ k, k < 0 → parseFieldDescriptor (TJ10 k).2.2.1 = some (tyJ10 k) := by decide +kernel
def RL : String := "ServerLineLaw"
abbrev cL_law : ByteArray := code
def yL_law : MethodName := ⟨RL, "law", "([I)Z"⟩
abbrev vwCl : List vw_C := [(RX0, TX0, 8), (RX1, TX1, 4), (RX2, TX2, 7), (RX3, TX3, 8), (RX4, TX4, 3), (RX5, TX5, 5), (RX6, TX6, 3), (RX8, TX8, 4), (RX9, TX9, 10), (RX10, TX10, 7), (RX11, TX11, 9), (RX12, TX12, 29)]
