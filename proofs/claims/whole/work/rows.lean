section
-- ===== PART A: goes FIRST, ahead of the names: the tables' words, and 'selects' of the private methods out of them =====
/-- a private method of a class that the tables say can be made, by its rows of tables_1 -/
def lw_okq (q : MethodName × Nat) : Prop := (q.1.cls ≠ "java/lang/invoke/MethodHandle" ∧ q.1.cls ≠ "java/lang/invoke/VarHandle") ∧ Cond.instantiable q.1.cls q.2 ∈ tables_1 ∧ Cond.privateMethod q.1 ∈ tables_1 ∧ Cond.instanceMethod q.1 ∈ tables_1
theorem lw_p0 : lw_okq (⟨"ServerLine$Line", "numberCrowds", "()V"⟩, 8) := ⟨⟨by decide +kernel, by decide +kernel⟩, List.mem_of_getElem? (i := 25) (by decide +kernel), List.mem_of_getElem? (i := 31) (by decide +kernel), List.mem_of_getElem? (i := 32) (by decide +kernel)⟩
theorem lw_p1 : lw_okq (⟨"ServerLine$Line", "listCrowds", "()V"⟩, 8) := ⟨⟨by decide +kernel, by decide +kernel⟩, List.mem_of_getElem? (i := 25) (by decide +kernel), List.mem_of_getElem? (i := 38) (by decide +kernel), List.mem_of_getElem? (i := 39) (by decide +kernel)⟩
theorem lw_p2 : lw_okq (⟨"ServerLine$Line", "choicesOf", "(I)I"⟩, 8) := ⟨⟨by decide +kernel, by decide +kernel⟩, List.mem_of_getElem? (i := 25) (by decide +kernel), List.mem_of_getElem? (i := 42) (by decide +kernel), List.mem_of_getElem? (i := 43) (by decide +kernel)⟩
theorem lw_p3 : lw_okq (⟨"ServerLine", "isPoint", "(I)Z"⟩, 9) := ⟨⟨by decide +kernel, by decide +kernel⟩, List.mem_of_getElem? (i := 17) (by decide +kernel), List.mem_of_getElem? (i := 406) (by decide +kernel), List.mem_of_getElem? (i := 407) (by decide +kernel)⟩
theorem lw_p4 : lw_okq (⟨"ServerLine", "isServer", "(I)Z"⟩, 9) := ⟨⟨by decide +kernel, by decide +kernel⟩, List.mem_of_getElem? (i := 17) (by decide +kernel), List.mem_of_getElem? (i := 422) (by decide +kernel), List.mem_of_getElem? (i := 423) (by decide +kernel)⟩
theorem lw_p5 : lw_okq (⟨"ServerLine", "readRow", "()Z"⟩, 9) := ⟨⟨by decide +kernel, by decide +kernel⟩, List.mem_of_getElem? (i := 17) (by decide +kernel), List.mem_of_getElem? (i := 434) (by decide +kernel), List.mem_of_getElem? (i := 435) (by decide +kernel)⟩
theorem lw_p6 : lw_okq (⟨"ServerLine$Ahead", "chosen", "(III)I"⟩, 8) := ⟨⟨by decide +kernel, by decide +kernel⟩, List.mem_of_getElem? (i := 283) (by decide +kernel), List.mem_of_getElem? (i := 526) (by decide +kernel), List.mem_of_getElem? (i := 527) (by decide +kernel)⟩
theorem lw_p7 : lw_okq (⟨"ServerLine$Both", "isServed", "(I)Z"⟩, 4) := ⟨⟨by decide +kernel, by decide +kernel⟩, List.mem_of_getElem? (i := 237) (by decide +kernel), List.mem_of_getElem? (i := 549) (by decide +kernel), List.mem_of_getElem? (i := 550) (by decide +kernel)⟩
theorem lw_p8 : lw_okq (⟨"ServerLine$Both", "nearestBelow", "(I)I"⟩, 4) := ⟨⟨by decide +kernel, by decide +kernel⟩, List.mem_of_getElem? (i := 237) (by decide +kernel), List.mem_of_getElem? (i := 553) (by decide +kernel), List.mem_of_getElem? (i := 554) (by decide +kernel)⟩
theorem lw_p9 : lw_okq (⟨"ServerLine$Both", "nearestAbove", "(I)I"⟩, 4) := ⟨⟨by decide +kernel, by decide +kernel⟩, List.mem_of_getElem? (i := 237) (by decide +kernel), List.mem_of_getElem? (i := 557) (by decide +kernel), List.mem_of_getElem? (i := 558) (by decide +kernel)⟩
theorem lw_p10 : lw_okq (⟨"ServerLine$Nearest", "nearestTo", "(I)I"⟩, 5) := ⟨⟨by decide +kernel, by decide +kernel⟩, List.mem_of_getElem? (i := 248) (by decide +kernel), List.mem_of_getElem? (i := 573) (by decide +kernel), List.mem_of_getElem? (i := 574) (by decide +kernel)⟩
theorem lw_p11 : lw_okq (⟨"ServerLine$Guarded", "isTooDear", "(LServerLine$Rule;LServerLine$Rule;)Z"⟩, 7) := ⟨⟨by decide +kernel, by decide +kernel⟩, List.mem_of_getElem? (i := 231) (by decide +kernel), List.mem_of_getElem? (i := 581) (by decide +kernel), List.mem_of_getElem? (i := 582) (by decide +kernel)⟩
theorem lw_p12 : lw_okq (⟨"ServerLine$Guarded", "standAs", "(LServerLine$Rule;)V"⟩, 7) := ⟨⟨by decide +kernel, by decide +kernel⟩, List.mem_of_getElem? (i := 231) (by decide +kernel), List.mem_of_getElem? (i := 585) (by decide +kernel), List.mem_of_getElem? (i := 586) (by decide +kernel)⟩
theorem lw_p13 : lw_okq (⟨"ServerLine$Work", "settle", "()V"⟩, 10) := ⟨⟨by decide +kernel, by decide +kernel⟩, List.mem_of_getElem? (i := 151) (by decide +kernel), List.mem_of_getElem? (i := 594) (by decide +kernel), List.mem_of_getElem? (i := 595) (by decide +kernel)⟩
theorem lw_p14 : lw_okq (⟨"ServerLine$Work", "worthBehind", "(II)I"⟩, 10) := ⟨⟨by decide +kernel, by decide +kernel⟩, List.mem_of_getElem? (i := 151) (by decide +kernel), List.mem_of_getElem? (i := 598) (by decide +kernel), List.mem_of_getElem? (i := 599) (by decide +kernel)⟩
theorem lw_p15 : lw_okq (⟨"ServerLine$Work", "chosen", "(I)I"⟩, 10) := ⟨⟨by decide +kernel, by decide +kernel⟩, List.mem_of_getElem? (i := 151) (by decide +kernel), List.mem_of_getElem? (i := 606) (by decide +kernel), List.mem_of_getElem? (i := 607) (by decide +kernel)⟩
def lw_privs_1 : List (MethodName × Nat) := [(⟨"ServerLine$Line", "numberCrowds", "()V"⟩, 8), (⟨"ServerLine$Line", "listCrowds", "()V"⟩, 8), (⟨"ServerLine$Line", "choicesOf", "(I)I"⟩, 8), (⟨"ServerLine", "isPoint", "(I)Z"⟩, 9), (⟨"ServerLine", "isServer", "(I)Z"⟩, 9), (⟨"ServerLine", "readRow", "()Z"⟩, 9), (⟨"ServerLine$Ahead", "chosen", "(III)I"⟩, 8), (⟨"ServerLine$Both", "isServed", "(I)Z"⟩, 4), (⟨"ServerLine$Both", "nearestBelow", "(I)I"⟩, 4), (⟨"ServerLine$Both", "nearestAbove", "(I)I"⟩, 4), (⟨"ServerLine$Nearest", "nearestTo", "(I)I"⟩, 5), (⟨"ServerLine$Guarded", "isTooDear", "(LServerLine$Rule;LServerLine$Rule;)Z"⟩, 7), (⟨"ServerLine$Guarded", "standAs", "(LServerLine$Rule;)V"⟩, 7), (⟨"ServerLine$Work", "settle", "()V"⟩, 10), (⟨"ServerLine$Work", "worthBehind", "(II)I"⟩, 10), (⟨"ServerLine$Work", "chosen", "(I)I"⟩, 10)]
theorem lw_r1 : ∀ q ∈ lw_privs_1, lw_okq q := List.forall_mem_cons.mpr ⟨lw_p0, List.forall_mem_cons.mpr ⟨lw_p1, List.forall_mem_cons.mpr ⟨lw_p2, List.forall_mem_cons.mpr ⟨lw_p3, List.forall_mem_cons.mpr ⟨lw_p4, List.forall_mem_cons.mpr ⟨lw_p5, List.forall_mem_cons.mpr ⟨lw_p6, List.forall_mem_cons.mpr ⟨lw_p7, List.forall_mem_cons.mpr ⟨lw_p8, List.forall_mem_cons.mpr ⟨lw_p9, List.forall_mem_cons.mpr ⟨lw_p10, List.forall_mem_cons.mpr ⟨lw_p11, List.forall_mem_cons.mpr ⟨lw_p12, List.forall_mem_cons.mpr ⟨lw_p13, List.forall_mem_cons.mpr ⟨lw_p14, List.forall_mem_cons.mpr ⟨lw_p15, fun _ h => absurd h List.not_mem_nil⟩⟩⟩⟩⟩⟩⟩⟩⟩⟩⟩⟩⟩⟩⟩⟩
theorem lw_p16 : lw_okq (⟨"ServerLine", "sentAt", "(LServerLine$Rule;I)I"⟩, 9) := ⟨⟨by decide +kernel, by decide +kernel⟩, List.mem_of_getElem? (i := 17) (by decide +kernel), List.mem_of_getElem? (i := 621) (by decide +kernel), List.mem_of_getElem? (i := 622) (by decide +kernel)⟩
theorem lw_p17 : lw_okq (⟨"ServerLine$Ahead", "planStep", "(II)V"⟩, 8) := ⟨⟨by decide +kernel, by decide +kernel⟩, List.mem_of_getElem? (i := 283) (by decide +kernel), List.mem_of_getElem? (i := 633) (by decide +kernel), List.mem_of_getElem? (i := 634) (by decide +kernel)⟩
theorem lw_p18 : lw_okq (⟨"ServerLine", "isStandingPoint", "(II)Z"⟩, 9) := ⟨⟨by decide +kernel, by decide +kernel⟩, List.mem_of_getElem? (i := 17) (by decide +kernel), List.mem_of_getElem? (i := 652) (by decide +kernel), List.mem_of_getElem? (i := 653) (by decide +kernel)⟩
theorem lw_p19 : lw_okq (⟨"ServerLine$WorstSearch", "weigh", "(LServerLine$Rule;II)V"⟩, 7) := ⟨⟨by decide +kernel, by decide +kernel⟩, List.mem_of_getElem? (i := 325) (by decide +kernel), List.mem_of_getElem? (i := 674) (by decide +kernel), List.mem_of_getElem? (i := 675) (by decide +kernel)⟩
theorem lw_p20 : lw_okq (⟨"ServerLine$WorstSearch", "leastFrom", "(II)I"⟩, 7) := ⟨⟨by decide +kernel, by decide +kernel⟩, List.mem_of_getElem? (i := 325) (by decide +kernel), List.mem_of_getElem? (i := 678) (by decide +kernel), List.mem_of_getElem? (i := 679) (by decide +kernel)⟩
theorem lw_p21 : lw_okq (⟨"ServerLine$WorstSearch", "turnToNextRow", "(I)Z"⟩, 7) := ⟨⟨by decide +kernel, by decide +kernel⟩, List.mem_of_getElem? (i := 325) (by decide +kernel), List.mem_of_getElem? (i := 687) (by decide +kernel), List.mem_of_getElem? (i := 688) (by decide +kernel)⟩
theorem lw_p22 : lw_okq (⟨"ServerLine$Longing", "stored", "()I"⟩, 3) := ⟨⟨by decide +kernel, by decide +kernel⟩, List.mem_of_getElem? (i := 307) (by decide +kernel), List.mem_of_getElem? (i := 705) (by decide +kernel), List.mem_of_getElem? (i := 706) (by decide +kernel)⟩
theorem lw_p23 : lw_okq (⟨"ServerLine$Longing", "paysAt", "(I)Z"⟩, 3) := ⟨⟨by decide +kernel, by decide +kernel⟩, List.mem_of_getElem? (i := 307) (by decide +kernel), List.mem_of_getElem? (i := 729) (by decide +kernel), List.mem_of_getElem? (i := 730) (by decide +kernel)⟩
theorem lw_p24 : lw_okq (⟨"ServerLine", "itemRefusal", "(III)I"⟩, 9) := ⟨⟨by decide +kernel, by decide +kernel⟩, List.mem_of_getElem? (i := 17) (by decide +kernel), List.mem_of_getElem? (i := 762) (by decide +kernel), List.mem_of_getElem? (i := 763) (by decide +kernel)⟩
theorem lw_p25 : lw_okq (⟨"ServerLineModel", "isPoint", "(I)Z"⟩, 29) := ⟨⟨by decide +kernel, by decide +kernel⟩, List.mem_of_getElem? (i := 811) (by decide +kernel), List.mem_of_getElem? (i := 917) (by decide +kernel), List.mem_of_getElem? (i := 918) (by decide +kernel)⟩
theorem lw_p26 : lw_okq (⟨"ServerLineModel", "reads", "()Z"⟩, 29) := ⟨⟨by decide +kernel, by decide +kernel⟩, List.mem_of_getElem? (i := 811) (by decide +kernel), List.mem_of_getElem? (i := 937) (by decide +kernel), List.mem_of_getElem? (i := 938) (by decide +kernel)⟩
theorem lw_p27 : lw_okq (⟨"ServerLineModel", "bestCost", "()I"⟩, 29) := ⟨⟨by decide +kernel, by decide +kernel⟩, List.mem_of_getElem? (i := 811) (by decide +kernel), List.mem_of_getElem? (i := 945) (by decide +kernel), List.mem_of_getElem? (i := 946) (by decide +kernel)⟩
theorem lw_p28 : lw_okq (⟨"ServerLineModel", "plans", "()V"⟩, 29) := ⟨⟨by decide +kernel, by decide +kernel⟩, List.mem_of_getElem? (i := 811) (by decide +kernel), List.mem_of_getElem? (i := 949) (by decide +kernel), List.mem_of_getElem? (i := 950) (by decide +kernel)⟩
theorem lw_p29 : lw_okq (⟨"ServerLineModel", "isStanding", "(I)Z"⟩, 29) := ⟨⟨by decide +kernel, by decide +kernel⟩, List.mem_of_getElem? (i := 811) (by decide +kernel), List.mem_of_getElem? (i := 954) (by decide +kernel), List.mem_of_getElem? (i := 955) (by decide +kernel)⟩
theorem lw_p30 : lw_okq (⟨"ServerLineModel", "pointOf", "(II)I"⟩, 29) := ⟨⟨by decide +kernel, by decide +kernel⟩, List.mem_of_getElem? (i := 811) (by decide +kernel), List.mem_of_getElem? (i := 958) (by decide +kernel), List.mem_of_getElem? (i := 959) (by decide +kernel)⟩
theorem lw_p31 : lw_okq (⟨"ServerLineModel", "wayTo", "(III)I"⟩, 29) := ⟨⟨by decide +kernel, by decide +kernel⟩, List.mem_of_getElem? (i := 811) (by decide +kernel), List.mem_of_getElem? (i := 962) (by decide +kernel), List.mem_of_getElem? (i := 963) (by decide +kernel)⟩
def lw_privs_2 : List (MethodName × Nat) := [(⟨"ServerLine", "sentAt", "(LServerLine$Rule;I)I"⟩, 9), (⟨"ServerLine$Ahead", "planStep", "(II)V"⟩, 8), (⟨"ServerLine", "isStandingPoint", "(II)Z"⟩, 9), (⟨"ServerLine$WorstSearch", "weigh", "(LServerLine$Rule;II)V"⟩, 7), (⟨"ServerLine$WorstSearch", "leastFrom", "(II)I"⟩, 7), (⟨"ServerLine$WorstSearch", "turnToNextRow", "(I)Z"⟩, 7), (⟨"ServerLine$Longing", "stored", "()I"⟩, 3), (⟨"ServerLine$Longing", "paysAt", "(I)Z"⟩, 3), (⟨"ServerLine", "itemRefusal", "(III)I"⟩, 9), (⟨"ServerLineModel", "isPoint", "(I)Z"⟩, 29), (⟨"ServerLineModel", "reads", "()Z"⟩, 29), (⟨"ServerLineModel", "bestCost", "()I"⟩, 29), (⟨"ServerLineModel", "plans", "()V"⟩, 29), (⟨"ServerLineModel", "isStanding", "(I)Z"⟩, 29), (⟨"ServerLineModel", "pointOf", "(II)I"⟩, 29), (⟨"ServerLineModel", "wayTo", "(III)I"⟩, 29)]
theorem lw_r2 : ∀ q ∈ lw_privs_2, lw_okq q := List.forall_mem_cons.mpr ⟨lw_p16, List.forall_mem_cons.mpr ⟨lw_p17, List.forall_mem_cons.mpr ⟨lw_p18, List.forall_mem_cons.mpr ⟨lw_p19, List.forall_mem_cons.mpr ⟨lw_p20, List.forall_mem_cons.mpr ⟨lw_p21, List.forall_mem_cons.mpr ⟨lw_p22, List.forall_mem_cons.mpr ⟨lw_p23, List.forall_mem_cons.mpr ⟨lw_p24, List.forall_mem_cons.mpr ⟨lw_p25, List.forall_mem_cons.mpr ⟨lw_p26, List.forall_mem_cons.mpr ⟨lw_p27, List.forall_mem_cons.mpr ⟨lw_p28, List.forall_mem_cons.mpr ⟨lw_p29, List.forall_mem_cons.mpr ⟨lw_p30, List.forall_mem_cons.mpr ⟨lw_p31, fun _ h => absurd h List.not_mem_nil⟩⟩⟩⟩⟩⟩⟩⟩⟩⟩⟩⟩⟩⟩⟩⟩
theorem lw_p32 : lw_okq (⟨"ServerLineModel", "with", "(III)I"⟩, 29) := ⟨⟨by decide +kernel, by decide +kernel⟩, List.mem_of_getElem? (i := 811) (by decide +kernel), List.mem_of_getElem? (i := 969) (by decide +kernel), List.mem_of_getElem? (i := 970) (by decide +kernel)⟩
theorem lw_p33 : lw_okq (⟨"ServerLineModel", "begin", "()I"⟩, 29) := ⟨⟨by decide +kernel, by decide +kernel⟩, List.mem_of_getElem? (i := 811) (by decide +kernel), List.mem_of_getElem? (i := 973) (by decide +kernel), List.mem_of_getElem? (i := 974) (by decide +kernel)⟩
theorem lw_p34 : lw_okq (⟨"ServerLineModel", "costOf", "(I)I"⟩, 29) := ⟨⟨by decide +kernel, by decide +kernel⟩, List.mem_of_getElem? (i := 811) (by decide +kernel), List.mem_of_getElem? (i := 985) (by decide +kernel), List.mem_of_getElem? (i := 986) (by decide +kernel)⟩
theorem lw_p35 : lw_okq (⟨"ServerLineModel", "runsGuarded", "(I)V"⟩, 29) := ⟨⟨by decide +kernel, by decide +kernel⟩, List.mem_of_getElem? (i := 811) (by decide +kernel), List.mem_of_getElem? (i := 989) (by decide +kernel), List.mem_of_getElem? (i := 990) (by decide +kernel)⟩
theorem lw_p36 : lw_okq (⟨"ServerLineModel", "starts", "()V"⟩, 29) := ⟨⟨by decide +kernel, by decide +kernel⟩, List.mem_of_getElem? (i := 811) (by decide +kernel), List.mem_of_getElem? (i := 993) (by decide +kernel), List.mem_of_getElem? (i := 994) (by decide +kernel)⟩
theorem lw_p37 : lw_okq (⟨"ServerLineModel", "first", "(I)I"⟩, 29) := ⟨⟨by decide +kernel, by decide +kernel⟩, List.mem_of_getElem? (i := 811) (by decide +kernel), List.mem_of_getElem? (i := 1000) (by decide +kernel), List.mem_of_getElem? (i := 1001) (by decide +kernel)⟩
theorem lw_p38 : lw_okq (⟨"ServerLineModel", "goesOn", "(II)V"⟩, 29) := ⟨⟨by decide +kernel, by decide +kernel⟩, List.mem_of_getElem? (i := 811) (by decide +kernel), List.mem_of_getElem? (i := 1004) (by decide +kernel), List.mem_of_getElem? (i := 1005) (by decide +kernel)⟩
theorem lw_p39 : lw_okq (⟨"ServerLineModel", "nearest", "(I)I"⟩, 29) := ⟨⟨by decide +kernel, by decide +kernel⟩, List.mem_of_getElem? (i := 811) (by decide +kernel), List.mem_of_getElem? (i := 1008) (by decide +kernel), List.mem_of_getElem? (i := 1009) (by decide +kernel)⟩
theorem lw_p40 : lw_okq (⟨"ServerLineModel", "sends", "(II)V"⟩, 29) := ⟨⟨by decide +kernel, by decide +kernel⟩, List.mem_of_getElem? (i := 811) (by decide +kernel), List.mem_of_getElem? (i := 1012) (by decide +kernel), List.mem_of_getElem? (i := 1013) (by decide +kernel)⟩
theorem lw_p41 : lw_okq (⟨"ServerLineModel", "both", "(I)V"⟩, 29) := ⟨⟨by decide +kernel, by decide +kernel⟩, List.mem_of_getElem? (i := 811) (by decide +kernel), List.mem_of_getElem? (i := 1016) (by decide +kernel), List.mem_of_getElem? (i := 1017) (by decide +kernel)⟩
theorem lw_p42 : lw_okq (⟨"ServerLineModel", "nearestOn", "(IZ)I"⟩, 29) := ⟨⟨by decide +kernel, by decide +kernel⟩, List.mem_of_getElem? (i := 811) (by decide +kernel), List.mem_of_getElem? (i := 1020) (by decide +kernel), List.mem_of_getElem? (i := 1021) (by decide +kernel)⟩
theorem lw_p43 : lw_okq (⟨"ServerLineModel", "goesByWork", "(I)V"⟩, 29) := ⟨⟨by decide +kernel, by decide +kernel⟩, List.mem_of_getElem? (i := 811) (by decide +kernel), List.mem_of_getElem? (i := 1024) (by decide +kernel), List.mem_of_getElem? (i := 1025) (by decide +kernel)⟩
theorem lw_p44 : lw_okq (⟨"ServerLineModel", "worksOn", "(I)V"⟩, 29) := ⟨⟨by decide +kernel, by decide +kernel⟩, List.mem_of_getElem? (i := 811) (by decide +kernel), List.mem_of_getElem? (i := 1028) (by decide +kernel), List.mem_of_getElem? (i := 1029) (by decide +kernel)⟩
theorem lw_p45 : lw_okq (⟨"ServerLineModel", "hintAt", "(I)I"⟩, 29) := ⟨⟨by decide +kernel, by decide +kernel⟩, List.mem_of_getElem? (i := 811) (by decide +kernel), List.mem_of_getElem? (i := 1032) (by decide +kernel), List.mem_of_getElem? (i := 1033) (by decide +kernel)⟩
theorem lw_p46 : lw_okq (⟨"ServerLineModel", "least", "(IIIIII)I"⟩, 29) := ⟨⟨by decide +kernel, by decide +kernel⟩, List.mem_of_getElem? (i := 811) (by decide +kernel), List.mem_of_getElem? (i := 1036) (by decide +kernel), List.mem_of_getElem? (i := 1037) (by decide +kernel)⟩
theorem lw_p47 : lw_okq (⟨"ServerLineModel", "runs", "(II)V"⟩, 29) := ⟨⟨by decide +kernel, by decide +kernel⟩, List.mem_of_getElem? (i := 811) (by decide +kernel), List.mem_of_getElem? (i := 1040) (by decide +kernel), List.mem_of_getElem? (i := 1041) (by decide +kernel)⟩
def lw_privs_3 : List (MethodName × Nat) := [(⟨"ServerLineModel", "with", "(III)I"⟩, 29), (⟨"ServerLineModel", "begin", "()I"⟩, 29), (⟨"ServerLineModel", "costOf", "(I)I"⟩, 29), (⟨"ServerLineModel", "runsGuarded", "(I)V"⟩, 29), (⟨"ServerLineModel", "starts", "()V"⟩, 29), (⟨"ServerLineModel", "first", "(I)I"⟩, 29), (⟨"ServerLineModel", "goesOn", "(II)V"⟩, 29), (⟨"ServerLineModel", "nearest", "(I)I"⟩, 29), (⟨"ServerLineModel", "sends", "(II)V"⟩, 29), (⟨"ServerLineModel", "both", "(I)V"⟩, 29), (⟨"ServerLineModel", "nearestOn", "(IZ)I"⟩, 29), (⟨"ServerLineModel", "goesByWork", "(I)V"⟩, 29), (⟨"ServerLineModel", "worksOn", "(I)V"⟩, 29), (⟨"ServerLineModel", "hintAt", "(I)I"⟩, 29), (⟨"ServerLineModel", "least", "(IIIIII)I"⟩, 29), (⟨"ServerLineModel", "runs", "(II)V"⟩, 29)]
theorem lw_r3 : ∀ q ∈ lw_privs_3, lw_okq q := List.forall_mem_cons.mpr ⟨lw_p32, List.forall_mem_cons.mpr ⟨lw_p33, List.forall_mem_cons.mpr ⟨lw_p34, List.forall_mem_cons.mpr ⟨lw_p35, List.forall_mem_cons.mpr ⟨lw_p36, List.forall_mem_cons.mpr ⟨lw_p37, List.forall_mem_cons.mpr ⟨lw_p38, List.forall_mem_cons.mpr ⟨lw_p39, List.forall_mem_cons.mpr ⟨lw_p40, List.forall_mem_cons.mpr ⟨lw_p41, List.forall_mem_cons.mpr ⟨lw_p42, List.forall_mem_cons.mpr ⟨lw_p43, List.forall_mem_cons.mpr ⟨lw_p44, List.forall_mem_cons.mpr ⟨lw_p45, List.forall_mem_cons.mpr ⟨lw_p46, List.forall_mem_cons.mpr ⟨lw_p47, fun _ h => absurd h List.not_mem_nil⟩⟩⟩⟩⟩⟩⟩⟩⟩⟩⟩⟩⟩⟩⟩⟩
theorem lw_p48 : lw_okq (⟨"ServerLineModel", "worksFirst", "()V"⟩, 29) := ⟨⟨by decide +kernel, by decide +kernel⟩, List.mem_of_getElem? (i := 811) (by decide +kernel), List.mem_of_getElem? (i := 1044) (by decide +kernel), List.mem_of_getElem? (i := 1045) (by decide +kernel)⟩
theorem lw_p49 : lw_okq (⟨"ServerLineModel", "seeks", "(II)V"⟩, 29) := ⟨⟨by decide +kernel, by decide +kernel⟩, List.mem_of_getElem? (i := 811) (by decide +kernel), List.mem_of_getElem? (i := 1072) (by decide +kernel), List.mem_of_getElem? (i := 1073) (by decide +kernel)⟩
theorem lw_p50 : lw_okq (⟨"ServerLineModel", "standingAt", "(I)I"⟩, 29) := ⟨⟨by decide +kernel, by decide +kernel⟩, List.mem_of_getElem? (i := 811) (by decide +kernel), List.mem_of_getElem? (i := 1084) (by decide +kernel), List.mem_of_getElem? (i := 1085) (by decide +kernel)⟩
theorem lw_p51 : lw_okq (⟨"ServerLineModel", "longs", "(I)I"⟩, 29) := ⟨⟨by decide +kernel, by decide +kernel⟩, List.mem_of_getElem? (i := 811) (by decide +kernel), List.mem_of_getElem? (i := 1088) (by decide +kernel), List.mem_of_getElem? (i := 1089) (by decide +kernel)⟩
theorem lw_p52 : lw_okq (⟨"ServerLineModel", "paysNot", "()I"⟩, 29) := ⟨⟨by decide +kernel, by decide +kernel⟩, List.mem_of_getElem? (i := 811) (by decide +kernel), List.mem_of_getElem? (i := 1096) (by decide +kernel), List.mem_of_getElem? (i := 1097) (by decide +kernel)⟩
theorem lw_p53 : lw_okq (⟨"ServerLineModel", "meets", "(I)I"⟩, 29) := ⟨⟨by decide +kernel, by decide +kernel⟩, List.mem_of_getElem? (i := 811) (by decide +kernel), List.mem_of_getElem? (i := 1107) (by decide +kernel), List.mem_of_getElem? (i := 1108) (by decide +kernel)⟩
theorem lw_p54 : lw_okq (⟨"ServerLineModel", "lacks", "(III)I"⟩, 29) := ⟨⟨by decide +kernel, by decide +kernel⟩, List.mem_of_getElem? (i := 811) (by decide +kernel), List.mem_of_getElem? (i := 1119) (by decide +kernel), List.mem_of_getElem? (i := 1120) (by decide +kernel)⟩
def lw_privs_4 : List (MethodName × Nat) := [(⟨"ServerLineModel", "worksFirst", "()V"⟩, 29), (⟨"ServerLineModel", "seeks", "(II)V"⟩, 29), (⟨"ServerLineModel", "standingAt", "(I)I"⟩, 29), (⟨"ServerLineModel", "longs", "(I)I"⟩, 29), (⟨"ServerLineModel", "paysNot", "()I"⟩, 29), (⟨"ServerLineModel", "meets", "(I)I"⟩, 29), (⟨"ServerLineModel", "lacks", "(III)I"⟩, 29)]
theorem lw_r4 : ∀ q ∈ lw_privs_4, lw_okq q := List.forall_mem_cons.mpr ⟨lw_p48, List.forall_mem_cons.mpr ⟨lw_p49, List.forall_mem_cons.mpr ⟨lw_p50, List.forall_mem_cons.mpr ⟨lw_p51, List.forall_mem_cons.mpr ⟨lw_p52, List.forall_mem_cons.mpr ⟨lw_p53, List.forall_mem_cons.mpr ⟨lw_p54, fun _ h => absurd h List.not_mem_nil⟩⟩⟩⟩⟩⟩⟩
def lw_privs : List (MethodName × Nat) := lw_privs_1 ++ (lw_privs_2 ++ (lw_privs_3 ++ (lw_privs_4)))
def lw_tbl : List Cond := k2_sels lw_privs ++ tables_1
theorem lw_privs_ok : ∀ q ∈ lw_privs, lw_okq q := by
  show ∀ q ∈ lw_privs_1 ++ (lw_privs_2 ++ (lw_privs_3 ++ (lw_privs_4))), lw_okq q
  exact List.forall_mem_append.mpr ⟨lw_r1, List.forall_mem_append.mpr ⟨lw_r2, List.forall_mem_append.mpr ⟨lw_r3, lw_r4⟩⟩⟩
def RX0 : String := "ServerLine$Ahead"
def TX0 : u_T := fun k => match k with
  | 0 => ("ServerLine$Rule", "line", "LServerLine$Line;", true)
  | 1 => ("ServerLine$Rule", "at", "[I", true)
  | 2 => ("ServerLine$Rule", "spent", "I", false)
  | 3 => ("ServerLine$Rule", "gone", "I", false)
  | 4 => ("ServerLine$Ahead", "toGo", "[[I", true)
  | 5 => ("ServerLine$Ahead", "leastSum", "I", false)
  | 6 => ("ServerLine$Ahead", "standing", "I", false)
  | _ => ("ServerLine$Ahead", "step", "I", false)
def tyX0 : Nat → FieldType := fun k => match k with
  | 0 => .object "ServerLine$Line"
  | 1 => .array .int
  | 2 => .int
  | 3 => .int
  | 4 => .array (.array .int)
  | 5 => .int
  | 6 => .int
  | _ => .int
abbrev wsX00 : List Cond := u_ws RX0 TX0 8
theorem nmX0 : ∀ a, a < 8 → ∀ b, b < 8 → a ≠ b → (TX0 a).2.1 ≠ (TX0 b).2.1 := by decide +kernel
theorem tyX0_ok : ∀ k, k < 8 → parseFieldDescriptor (TX0 k).2.2.1 = some (tyX0 k) := by decide +kernel
abbrev cX0_init : ByteArray := prog_2_method_1_code
def yX0_init : MethodName := ⟨RX0, "<init>", "(LServerLine$Line;)V"⟩
abbrev cX0_plan : ByteArray := prog_2_method_2_code
def yX0_plan : MethodName := ⟨RX0, "plan", "(LServerLine$Row;)I"⟩
abbrev cX0_planStep : ByteArray := prog_2_method_3_code
def yX0_planStep : MethodName := ⟨RX0, "planStep", "(II)V"⟩
abbrev cX0_chosen : ByteArray := prog_2_method_4_code
def yX0_chosen : MethodName := ⟨RX0, "chosen", "(III)I"⟩
abbrev cX0_standAtStart : ByteArray := prog_2_method_5_code
def yX0_standAtStart : MethodName := ⟨RX0, "standAtStart", "()V"⟩
abbrev cX0_meet : ByteArray := prog_2_method_6_code
def yX0_meet : MethodName := ⟨RX0, "meet", "(II)V"⟩
def RX1 : String := "ServerLine$Both"
def TX1 : u_T := fun k => match k with
  | 0 => ("ServerLine$Rule", "line", "LServerLine$Line;", true)
  | 1 => ("ServerLine$Rule", "at", "[I", true)
  | 2 => ("ServerLine$Rule", "spent", "I", false)
  | _ => ("ServerLine$Rule", "gone", "I", false)
def tyX1 : Nat → FieldType := fun k => match k with
  | 0 => .object "ServerLine$Line"
  | 1 => .array .int
  | 2 => .int
  | _ => .int
abbrev wsX10 : List Cond := u_ws RX1 TX1 4
theorem nmX1 : ∀ a, a < 4 → ∀ b, b < 4 → a ≠ b → (TX1 a).2.1 ≠ (TX1 b).2.1 := by decide +kernel
theorem tyX1_ok : ∀ k, k < 4 → parseFieldDescriptor (TX1 k).2.2.1 = some (tyX1 k) := by decide +kernel
abbrev cX1_init : ByteArray := prog_3_method_1_code
def yX1_init : MethodName := ⟨RX1, "<init>", "(LServerLine$Line;)V"⟩
abbrev cX1_meet : ByteArray := prog_3_method_2_code
def yX1_meet : MethodName := ⟨RX1, "meet", "(II)V"⟩
abbrev cX1_isServed : ByteArray := prog_3_method_3_code
def yX1_isServed : MethodName := ⟨RX1, "isServed", "(I)Z"⟩
abbrev cX1_nearestBelow : ByteArray := prog_3_method_4_code
def yX1_nearestBelow : MethodName := ⟨RX1, "nearestBelow", "(I)I"⟩
abbrev cX1_nearestAbove : ByteArray := prog_3_method_5_code
def yX1_nearestAbove : MethodName := ⟨RX1, "nearestAbove", "(I)I"⟩
def RX2 : String := "ServerLine$Guarded"
def TX2 : u_T := fun k => match k with
  | 0 => ("ServerLine$Rule", "line", "LServerLine$Line;", true)
  | 1 => ("ServerLine$Rule", "at", "[I", true)
  | 2 => ("ServerLine$Rule", "spent", "I", false)
  | 3 => ("ServerLine$Rule", "gone", "I", false)
  | 4 => ("ServerLine$Guarded", "both", "LServerLine$Both;", true)
  | 5 => ("ServerLine$Guarded", "hinted", "LServerLine$Nearest;", true)
  | _ => ("ServerLine$Guarded", "trusted", "I", false)
def tyX2 : Nat → FieldType := fun k => match k with
  | 0 => .object "ServerLine$Line"
  | 1 => .array .int
  | 2 => .int
  | 3 => .int
  | 4 => .object "ServerLine$Both"
  | 5 => .object "ServerLine$Nearest"
  | _ => .int
abbrev wsX20 : List Cond := u_ws RX2 TX2 7
theorem nmX2 : ∀ a, a < 7 → ∀ b, b < 7 → a ≠ b → (TX2 a).2.1 ≠ (TX2 b).2.1 := by decide +kernel
theorem tyX2_ok : ∀ k, k < 7 → parseFieldDescriptor (TX2 k).2.2.1 = some (tyX2 k) := by decide +kernel
abbrev cX2_init : ByteArray := prog_4_method_1_code
def yX2_init : MethodName := ⟨RX2, "<init>", "(LServerLine$Line;)V"⟩
abbrev cX2_standAtStart : ByteArray := prog_4_method_2_code
def yX2_standAtStart : MethodName := ⟨RX2, "standAtStart", "()V"⟩
abbrev cX2_meet : ByteArray := prog_4_method_3_code
def yX2_meet : MethodName := ⟨RX2, "meet", "(II)V"⟩
abbrev cX2_isTooDear : ByteArray := prog_4_method_4_code
def yX2_isTooDear : MethodName := ⟨RX2, "isTooDear", "(LServerLine$Rule;LServerLine$Rule;)Z"⟩
abbrev cX2_standAs : ByteArray := prog_4_method_5_code
def yX2_standAs : MethodName := ⟨RX2, "standAs", "(LServerLine$Rule;)V"⟩
def RX3 : String := "ServerLine$Line"
def TX3 : u_T := fun k => match k with
  | 0 => ("ServerLine$Line", "pointCount", "I", false)
  | 1 => ("ServerLine$Line", "serverCount", "I", false)
  | 2 => ("ServerLine$Line", "guardFactor", "I", false)
  | 3 => ("ServerLine$Line", "crowdCount", "I", false)
  | 4 => ("ServerLine$Line", "places", "[I", true)
  | 5 => ("ServerLine$Line", "starts", "[I", true)
  | 6 => ("ServerLine$Line", "crowds", "[I", true)
  | _ => ("ServerLine$Line", "crowdStandings", "[I", true)
def tyX3 : Nat → FieldType := fun k => match k with
  | 0 => .int
  | 1 => .int
  | 2 => .int
  | 3 => .int
  | 4 => .array .int
  | 5 => .array .int
  | 6 => .array .int
  | _ => .array .int
abbrev wsX30 : List Cond := u_ws RX3 TX3 8
theorem nmX3 : ∀ a, a < 8 → ∀ b, b < 8 → a ≠ b → (TX3 a).2.1 ≠ (TX3 b).2.1 := by decide +kernel
theorem tyX3_ok : ∀ k, k < 8 → parseFieldDescriptor (TX3 k).2.2.1 = some (tyX3 k) := by decide +kernel
abbrev cX3_init : ByteArray := prog_5_method_1_code
def yX3_init : MethodName := ⟨RX3, "<init>", "()V"⟩
abbrev cX3_resizePoints : ByteArray := prog_5_method_2_code
def yX3_resizePoints : MethodName := ⟨RX3, "resizePoints", "(I)V"⟩
abbrev cX3_resizeServers : ByteArray := prog_5_method_3_code
def yX3_resizeServers : MethodName := ⟨RX3, "resizeServers", "(I)V"⟩
abbrev cX3_numberCrowds : ByteArray := prog_5_method_4_code
def yX3_numberCrowds : MethodName := ⟨RX3, "numberCrowds", "()V"⟩
abbrev cX3_listCrowds : ByteArray := prog_5_method_5_code
def yX3_listCrowds : MethodName := ⟨RX3, "listCrowds", "()V"⟩
abbrev cX3_choicesOf : ByteArray := prog_5_method_6_code
def yX3_choicesOf : MethodName := ⟨RX3, "choicesOf", "(I)I"⟩
abbrev cX3_coded : ByteArray := prog_5_method_7_code
def yX3_coded : MethodName := ⟨RX3, "coded", "(III)I"⟩
abbrev cX3_standingOf : ByteArray := prog_5_method_8_code
def yX3_standingOf : MethodName := ⟨RX3, "standingOf", "(III)I"⟩
abbrev cX3_startStanding : ByteArray := prog_5_method_9_code
def yX3_startStanding : MethodName := ⟨RX3, "startStanding", "()I"⟩
abbrev cX3_pointOf : ByteArray := prog_5_method_10_code
def yX3_pointOf : MethodName := ⟨RX3, "pointOf", "(II)I"⟩
abbrev cX3_moved : ByteArray := prog_5_method_11_code
def yX3_moved : MethodName := ⟨RX3, "moved", "(III)I"⟩
abbrev cX3_wayOf : ByteArray := prog_5_method_12_code
def yX3_wayOf : MethodName := ⟨RX3, "wayOf", "(III)I"⟩
abbrev cX3_leastWays : ByteArray := prog_5_method_13_code
def yX3_leastWays : MethodName := ⟨RX3, "leastWays", "([I[I)I"⟩
abbrev cX3_pairWays : ByteArray := prog_5_method_14_code
def yX3_pairWays : MethodName := ⟨RX3, "pairWays", "(IIII)I"⟩
abbrev cX3_waysAmong : ByteArray := prog_5_method_15_code
def yX3_waysAmong : MethodName := ⟨RX3, "waysAmong", "([I)I"⟩
def RX4 : String := "ServerLine$Longing"
def TX4 : u_T := fun k => match k with
  | 0 => ("ServerLine$Longing", "line", "LServerLine$Line;", true)
  | 1 => ("ServerLine$Longing", "both", "LServerLine$Both;", true)
  | _ => ("ServerLine$Longing", "ahead", "LServerLine$Ahead;", true)
def tyX4 : Nat → FieldType := fun k => match k with
  | 0 => .object "ServerLine$Line"
  | 1 => .object "ServerLine$Both"
  | _ => .object "ServerLine$Ahead"
abbrev wsX40 : List Cond := u_ws RX4 TX4 3
theorem nmX4 : ∀ a, a < 3 → ∀ b, b < 3 → a ≠ b → (TX4 a).2.1 ≠ (TX4 b).2.1 := by decide +kernel
theorem tyX4_ok : ∀ k, k < 3 → parseFieldDescriptor (TX4 k).2.2.1 = some (tyX4 k) := by decide +kernel
abbrev cX4_init : ByteArray := prog_6_method_1_code
def yX4_init : MethodName := ⟨RX4, "<init>", "(LServerLine$Line;LServerLine$Ahead;)V"⟩
abbrev cX4_behind : ByteArray := prog_6_method_2_code
def yX4_behind : MethodName := ⟨RX4, "behind", "(LServerLine$Row;I)I"⟩
abbrev cX4_firstUnpaid : ByteArray := prog_6_method_3_code
def yX4_firstUnpaid : MethodName := ⟨RX4, "firstUnpaid", "(LServerLine$Row;)I"⟩
abbrev cX4_paysAt : ByteArray := prog_6_method_4_code
def yX4_paysAt : MethodName := ⟨RX4, "paysAt", "(I)Z"⟩
abbrev cX4_stored : ByteArray := prog_6_method_5_code
def yX4_stored : MethodName := ⟨RX4, "stored", "()I"⟩
def RX5 : String := "ServerLine$Nearest"
def TX5 : u_T := fun k => match k with
  | 0 => ("ServerLine$Rule", "line", "LServerLine$Line;", true)
  | 1 => ("ServerLine$Rule", "at", "[I", true)
  | 2 => ("ServerLine$Rule", "spent", "I", false)
  | 3 => ("ServerLine$Rule", "gone", "I", false)
  | _ => ("ServerLine$Nearest", "heedsHints", "Z", true)
def tyX5 : Nat → FieldType := fun k => match k with
  | 0 => .object "ServerLine$Line"
  | 1 => .array .int
  | 2 => .int
  | 3 => .int
  | _ => .boolean
abbrev wsX50 : List Cond := u_ws RX5 TX5 5
theorem nmX5 : ∀ a, a < 5 → ∀ b, b < 5 → a ≠ b → (TX5 a).2.1 ≠ (TX5 b).2.1 := by decide +kernel
theorem tyX5_ok : ∀ k, k < 5 → parseFieldDescriptor (TX5 k).2.2.1 = some (tyX5 k) := by decide +kernel
abbrev cX5_init : ByteArray := prog_7_method_1_code
def yX5_init : MethodName := ⟨RX5, "<init>", "(LServerLine$Line;Z)V"⟩
abbrev cX5_meet : ByteArray := prog_7_method_2_code
def yX5_meet : MethodName := ⟨RX5, "meet", "(II)V"⟩
abbrev cX5_nearestTo : ByteArray := prog_7_method_3_code
def yX5_nearestTo : MethodName := ⟨RX5, "nearestTo", "(I)I"⟩
def RX6 : String := "ServerLine$Row"
def TX6 : u_T := fun k => match k with
  | 0 => ("ServerLine$Row", "points", "[I", true)
  | 1 => ("ServerLine$Row", "hints", "[I", true)
  | _ => ("ServerLine$Row", "length", "I", false)
def tyX6 : Nat → FieldType := fun k => match k with
  | 0 => .array .int
  | 1 => .array .int
  | _ => .int
abbrev wsX60 : List Cond := u_ws RX6 TX6 3
theorem nmX6 : ∀ a, a < 3 → ∀ b, b < 3 → a ≠ b → (TX6 a).2.1 ≠ (TX6 b).2.1 := by decide +kernel
theorem tyX6_ok : ∀ k, k < 3 → parseFieldDescriptor (TX6 k).2.2.1 = some (tyX6 k) := by decide +kernel
abbrev cX6_init : ByteArray := prog_8_method_1_code
def yX6_init : MethodName := ⟨RX6, "<init>", "()V"⟩
abbrev cX6_read : ByteArray := prog_8_method_2_code
def yX6_read : MethodName := ⟨RX6, "read", "(LServerLine$Sheets;LServerLine$Line;)Z"⟩
abbrev cX6_hintAt : ByteArray := prog_8_method_3_code
def yX6_hintAt : MethodName := ⟨RX6, "hintAt", "(LServerLine$Sheets;LServerLine$Line;I)I"⟩
abbrev cX6_lead : ByteArray := prog_8_method_4_code
def yX6_lead : MethodName := ⟨RX6, "lead", "(LServerLine$Rule;I)I"⟩
def RX7 : String := "ServerLine$Rule"
def TX7 : u_T := fun k => match k with
  | _ => ("", "", "", false)
def tyX7 : Nat → FieldType := fun k => match k with
  | _ => .int
abbrev wsX70 : List Cond := u_ws RX7 TX7 0
theorem nmX7 : ∀ a, a < 0 → ∀ b, b < 0 → a ≠ b → (TX7 a).2.1 ≠ (TX7 b).2.1 := by decide +kernel
theorem tyX7_ok : ∀ k, k < 0 → parseFieldDescriptor (TX7 k).2.2.1 = some (tyX7 k) := by decide +kernel
abbrev cX7_init : ByteArray := prog_9_method_1_code
def yX7_init : MethodName := ⟨RX7, "<init>", "(LServerLine$Line;)V"⟩
abbrev cX7_begin : ByteArray := prog_9_method_2_code
def yX7_begin : MethodName := ⟨RX7, "begin", "()V"⟩
abbrev cX7_standAtStart : ByteArray := prog_9_method_3_code
def yX7_standAtStart : MethodName := ⟨RX7, "standAtStart", "()V"⟩
abbrev cX7_send : ByteArray := prog_9_method_5_code
def yX7_send : MethodName := ⟨RX7, "send", "(II)V"⟩
def RX8 : String := "ServerLine$Sheets"
def TX8 : u_T := fun k => match k with
  | 0 => ("ServerLine$Sheets", "items", "[[I", true)
  | 1 => ("ServerLine$Sheets", "forms", "[I", true)
  | 2 => ("ServerLine$Sheets", "sizes", "[I", true)
  | _ => ("ServerLine$Sheets", "finding", "I", false)
def tyX8 : Nat → FieldType := fun k => match k with
  | 0 => .array (.array .int)
  | 1 => .array .int
  | 2 => .array .int
  | _ => .int
abbrev wsX80 : List Cond := u_ws RX8 TX8 4
theorem nmX8 : ∀ a, a < 4 → ∀ b, b < 4 → a ≠ b → (TX8 a).2.1 ≠ (TX8 b).2.1 := by decide +kernel
theorem tyX8_ok : ∀ k, k < 4 → parseFieldDescriptor (TX8 k).2.2.1 = some (tyX8 k) := by decide +kernel
abbrev cX8_init : ByteArray := prog_10_method_1_code
def yX8_init : MethodName := ⟨RX8, "<init>", "()V"⟩
abbrev cX8_found : ByteArray := prog_10_method_2_code
def yX8_found : MethodName := ⟨RX8, "found", "(I)I"⟩
abbrev cX8_isLost : ByteArray := prog_10_method_3_code
def yX8_isLost : MethodName := ⟨RX8, "isLost", "(I)Z"⟩
abbrev cX8_keptCount : ByteArray := prog_10_method_4_code
def yX8_keptCount : MethodName := ⟨RX8, "keptCount", "()I"⟩
abbrev cX8_renew : ByteArray := prog_10_method_5_code
def yX8_renew : MethodName := ⟨RX8, "renew", "(III)V"⟩
abbrev cX8_drop : ByteArray := prog_10_method_6_code
def yX8_drop : MethodName := ⟨RX8, "drop", "(I)V"⟩
abbrev cX8_hasItems : ByteArray := prog_10_method_7_code
def yX8_hasItems : MethodName := ⟨RX8, "hasItems", "(III)Z"⟩
abbrev cX8_write : ByteArray := prog_10_method_8_code
def yX8_write : MethodName := ⟨RX8, "write", "(III)V"⟩
abbrev cX8_cut : ByteArray := prog_10_method_9_code
def yX8_cut : MethodName := ⟨RX8, "cut", "(II)I"⟩
def RX9 : String := "ServerLine$Work"
def TX9 : u_T := fun k => match k with
  | 0 => ("ServerLine$Rule", "line", "LServerLine$Line;", true)
  | 1 => ("ServerLine$Rule", "at", "[I", true)
  | 2 => ("ServerLine$Rule", "spent", "I", false)
  | 3 => ("ServerLine$Rule", "gone", "I", false)
  | 4 => ("ServerLine$Work", "late", "[I", true)
  | 5 => ("ServerLine$Work", "lateCount", "I", false)
  | 6 => ("ServerLine$Work", "standing", "I", false)
  | 7 => ("ServerLine$Work", "settled", "[I", false)
  | 8 => ("ServerLine$Work", "spare", "[I", false)
  | _ => ("ServerLine$Work", "aim", "[I", true)
def tyX9 : Nat → FieldType := fun k => match k with
  | 0 => .object "ServerLine$Line"
  | 1 => .array .int
  | 2 => .int
  | 3 => .int
  | 4 => .array .int
  | 5 => .int
  | 6 => .int
  | 7 => .array .int
  | 8 => .array .int
  | _ => .array .int
abbrev wsX90 : List Cond := u_ws RX9 TX9 10
theorem nmX9 : ∀ a, a < 10 → ∀ b, b < 10 → a ≠ b → (TX9 a).2.1 ≠ (TX9 b).2.1 := by decide +kernel
theorem tyX9_ok : ∀ k, k < 10 → parseFieldDescriptor (TX9 k).2.2.1 = some (tyX9 k) := by decide +kernel
abbrev cX9_init : ByteArray := prog_11_method_1_code
def yX9_init : MethodName := ⟨RX9, "<init>", "(LServerLine$Line;I)V"⟩
abbrev cX9_begin : ByteArray := prog_11_method_2_code
def yX9_begin : MethodName := ⟨RX9, "begin", "()V"⟩
abbrev cX9_standAtStart : ByteArray := prog_11_method_3_code
def yX9_standAtStart : MethodName := ⟨RX9, "standAtStart", "()V"⟩
abbrev cX9_worth : ByteArray := prog_11_method_4_code
def yX9_worth : MethodName := ⟨RX9, "worth", "(I)I"⟩
abbrev cX9_worthBehind : ByteArray := prog_11_method_5_code
def yX9_worthBehind : MethodName := ⟨RX9, "worthBehind", "(II)I"⟩
abbrev cX9_settle : ByteArray := prog_11_method_6_code
def yX9_settle : MethodName := ⟨RX9, "settle", "()V"⟩
abbrev cX9_meet : ByteArray := prog_11_method_7_code
def yX9_meet : MethodName := ⟨RX9, "meet", "(II)V"⟩
abbrev cX9_chosen : ByteArray := prog_11_method_8_code
def yX9_chosen : MethodName := ⟨RX9, "chosen", "(I)I"⟩
def RX10 : String := "ServerLine$WorstSearch"
def TX10 : u_T := fun k => match k with
  | 0 => ("ServerLine$WorstSearch", "line", "LServerLine$Line;", true)
  | 1 => ("ServerLine$WorstSearch", "tried", "[LServerLine$Rule;", true)
  | 2 => ("ServerLine$WorstSearch", "points", "[I", true)
  | 3 => ("ServerLine$WorstSearch", "at", "[I", true)
  | 4 => ("ServerLine$WorstSearch", "number", "I", false)
  | 5 => ("ServerLine$WorstSearch", "spent", "I", false)
  | _ => ("ServerLine$WorstSearch", "least", "I", false)
def tyX10 : Nat → FieldType := fun k => match k with
  | 0 => .object "ServerLine$Line"
  | 1 => .array (.object "ServerLine$Rule")
  | 2 => .array .int
  | 3 => .array .int
  | 4 => .int
  | 5 => .int
  | _ => .int
abbrev wsX100 : List Cond := u_ws RX10 TX10 7
theorem nmX10 : ∀ a, a < 7 → ∀ b, b < 7 → a ≠ b → (TX10 a).2.1 ≠ (TX10 b).2.1 := by decide +kernel
theorem tyX10_ok : ∀ k, k < 7 → parseFieldDescriptor (TX10 k).2.2.1 = some (tyX10 k) := by decide +kernel
abbrev cX10_init : ByteArray := prog_12_method_1_code
def yX10_init : MethodName := ⟨RX10, "<init>", "(LServerLine$Line;)V"⟩
abbrev cX10_seek : ByteArray := prog_12_method_2_code
def yX10_seek : MethodName := ⟨RX10, "seek", "(II)V"⟩
abbrev cX10_turnToNextRow : ByteArray := prog_12_method_3_code
def yX10_turnToNextRow : MethodName := ⟨RX10, "turnToNextRow", "(I)Z"⟩
abbrev cX10_weigh : ByteArray := prog_12_method_4_code
def yX10_weigh : MethodName := ⟨RX10, "weigh", "(LServerLine$Rule;II)V"⟩
abbrev cX10_leastFrom : ByteArray := prog_12_method_5_code
def yX10_leastFrom : MethodName := ⟨RX10, "leastFrom", "(II)I"⟩
def RX11 : String := "ServerLine"
def TX11 : u_T := fun k => match k with
  | 0 => ("ServerLine", "line", "LServerLine$Line;", true)
  | 1 => ("ServerLine", "sheets", "LServerLine$Sheets;", true)
  | 2 => ("ServerLine", "row", "LServerLine$Row;", true)
  | 3 => ("ServerLine", "rules", "[LServerLine$Rule;", true)
  | 4 => ("ServerLine", "workRule", "LServerLine$Work;", true)
  | 5 => ("ServerLine", "guardedRule", "LServerLine$Guarded;", true)
  | 6 => ("ServerLine", "ahead", "LServerLine$Ahead;", true)
  | 7 => ("ServerLine", "store", "LServerLine$Longing;", true)
  | _ => ("ServerLine", "search", "LServerLine$WorstSearch;", true)
def tyX11 : Nat → FieldType := fun k => match k with
  | 0 => .object "ServerLine$Line"
  | 1 => .object "ServerLine$Sheets"
  | 2 => .object "ServerLine$Row"
  | 3 => .array (.object "ServerLine$Rule")
  | 4 => .object "ServerLine$Work"
  | 5 => .object "ServerLine$Guarded"
  | 6 => .object "ServerLine$Ahead"
  | 7 => .object "ServerLine$Longing"
  | _ => .object "ServerLine$WorstSearch"
abbrev wsX110 : List Cond := u_ws RX11 TX11 9
theorem nmX11 : ∀ a, a < 9 → ∀ b, b < 9 → a ≠ b → (TX11 a).2.1 ≠ (TX11 b).2.1 := by decide +kernel
theorem tyX11_ok : ∀ k, k < 9 → parseFieldDescriptor (TX11 k).2.2.1 = some (tyX11 k) := by decide +kernel
abbrev cX11_init : ByteArray := prog_1_method_1_code
def yX11_init : MethodName := ⟨RX11, "<init>", "()V"⟩
abbrev cX11_points : ByteArray := prog_1_method_2_code
def yX11_points : MethodName := ⟨RX11, "points", "(I)I"⟩
abbrev cX11_place : ByteArray := prog_1_method_3_code
def yX11_place : MethodName := ⟨RX11, "place", "(II)I"⟩
abbrev cX11_servers : ByteArray := prog_1_method_4_code
def yX11_servers : MethodName := ⟨RX11, "servers", "(I)I"⟩
abbrev cX11_start : ByteArray := prog_1_method_5_code
def yX11_start : MethodName := ⟨RX11, "start", "(II)I"⟩
abbrev cX11_factor : ByteArray := prog_1_method_6_code
def yX11_factor : MethodName := ⟨RX11, "factor", "(I)I"⟩
abbrev cX11_asked : ByteArray := prog_1_method_7_code
def yX11_asked : MethodName := ⟨RX11, "asked", "()I"⟩
abbrev cX11_cost : ByteArray := prog_1_method_8_code
def yX11_cost : MethodName := ⟨RX11, "cost", "(I)I"⟩
abbrev cX11_stands : ByteArray := prog_1_method_9_code
def yX11_stands : MethodName := ⟨RX11, "stands", "(III)I"⟩
abbrev cX11_goes : ByteArray := prog_1_method_10_code
def yX11_goes : MethodName := ⟨RX11, "goes", "(II)I"⟩
abbrev cX11_best : ByteArray := prog_1_method_11_code
def yX11_best : MethodName := ⟨RX11, "best", "()I"⟩
abbrev cX11_way : ByteArray := prog_1_method_12_code
def yX11_way : MethodName := ⟨RX11, "way", "(I)I"⟩
abbrev cX11_share : ByteArray := prog_1_method_13_code
def yX11_share : MethodName := ⟨RX11, "share", "(I)I"⟩
abbrev cX11_work : ByteArray := prog_1_method_14_code
def yX11_work : MethodName := ⟨RX11, "work", "(IIII)I"⟩
abbrev cX11_trusts : ByteArray := prog_1_method_15_code
def yX11_trusts : MethodName := ⟨RX11, "trusts", "(I)I"⟩
abbrev cX11_worst : ByteArray := prog_1_method_16_code
def yX11_worst : MethodName := ⟨RX11, "worst", "(II)I"⟩
abbrev cX11_worstShare : ByteArray := prog_1_method_17_code
def yX11_worstShare : MethodName := ⟨RX11, "worstShare", "(II)I"⟩
abbrev cX11_longing : ByteArray := prog_1_method_18_code
def yX11_longing : MethodName := ⟨RX11, "longing", "(I)I"⟩
abbrev cX11_pays : ByteArray := prog_1_method_19_code
def yX11_pays : MethodName := ⟨RX11, "pays", "()I"⟩
abbrev cX11_sheet : ByteArray := prog_1_method_20_code
def yX11_sheet : MethodName := ⟨RX11, "sheet", "(III)I"⟩
abbrev cX11_lose : ByteArray := prog_1_method_21_code
def yX11_lose : MethodName := ⟨RX11, "lose", "(I)I"⟩
abbrev cX11_put : ByteArray := prog_1_method_22_code
def yX11_put : MethodName := ⟨RX11, "put", "(IIII)I"⟩
abbrev cX11_get : ByteArray := prog_1_method_23_code
def yX11_get : MethodName := ⟨RX11, "get", "(III)I"⟩
abbrev cX11_copy : ByteArray := prog_1_method_24_code
def yX11_copy : MethodName := ⟨RX11, "copy", "(IIIII)I"⟩
abbrev cX11_hint : ByteArray := prog_1_method_25_code
def yX11_hint : MethodName := ⟨RX11, "hint", "()I"⟩
abbrev cX11_count : ByteArray := prog_1_method_26_code
def yX11_count : MethodName := ⟨RX11, "count", "(I)I"⟩
abbrev cX11_digest : ByteArray := prog_1_method_27_code
def yX11_digest : MethodName := ⟨RX11, "digest", "()J"⟩
abbrev cX11_isWithin : ByteArray := prog_1_method_28_code
def yX11_isWithin : MethodName := ⟨RX11, "isWithin", "(III)Z"⟩
abbrev cX11_isPoint : ByteArray := prog_1_method_29_code
def yX11_isPoint : MethodName := ⟨RX11, "isPoint", "(I)Z"⟩
abbrev cX11_isServer : ByteArray := prog_1_method_30_code
def yX11_isServer : MethodName := ⟨RX11, "isServer", "(I)Z"⟩
abbrev cX11_isSheet : ByteArray := prog_1_method_31_code
def yX11_isSheet : MethodName := ⟨RX11, "isSheet", "(I)Z"⟩
abbrev cX11_isForm : ByteArray := prog_1_method_32_code
def yX11_isForm : MethodName := ⟨RX11, "isForm", "(I)Z"⟩
abbrev cX11_isStandingPoint : ByteArray := prog_1_method_33_code
def yX11_isStandingPoint : MethodName := ⟨RX11, "isStandingPoint", "(II)Z"⟩
abbrev cX11_readRow : ByteArray := prog_1_method_34_code
def yX11_readRow : MethodName := ⟨RX11, "readRow", "()Z"⟩
abbrev cX11_sentAt : ByteArray := prog_1_method_35_code
def yX11_sentAt : MethodName := ⟨RX11, "sentAt", "(LServerLine$Rule;I)I"⟩
abbrev cX11_hundredths : ByteArray := prog_1_method_36_code
def yX11_hundredths : MethodName := ⟨RX11, "hundredths", "(II)I"⟩
abbrev cX11_itemRefusal : ByteArray := prog_1_method_37_code
def yX11_itemRefusal : MethodName := ⟨RX11, "itemRefusal", "(III)I"⟩
def RX12 : String := "ServerLineModel"
def TX12 : u_T := fun k => match k with
  | 0 => ("ServerLineModel", "points", "I", false)
  | 1 => ("ServerLineModel", "places", "[I", true)
  | 2 => ("ServerLineModel", "servers", "I", false)
  | 3 => ("ServerLineModel", "starts", "[I", true)
  | 4 => ("ServerLineModel", "factor", "I", false)
  | 5 => ("ServerLineModel", "many", "I", false)
  | 6 => ("ServerLineModel", "row", "[I", true)
  | 7 => ("ServerLineModel", "toGo", "[I", true)
  | 8 => ("ServerLineModel", "goesOf", "[I", true)
  | 9 => ("ServerLineModel", "at", "[I", true)
  | 10 => ("ServerLineModel", "standing", "I", false)
  | 11 => ("ServerLineModel", "spent", "I", false)
  | 12 => ("ServerLineModel", "went", "I", false)
  | 13 => ("ServerLineModel", "work", "[I", true)
  | 14 => ("ServerLineModel", "works", "[I", true)
  | 15 => ("ServerLineModel", "one", "[I", true)
  | 16 => ("ServerLineModel", "three", "[I", true)
  | 17 => ("ServerLineModel", "guarded", "[I", true)
  | 18 => ("ServerLineModel", "trusted", "I", false)
  | 19 => ("ServerLineModel", "guardedCost", "I", false)
  | 20 => ("ServerLineModel", "worstOf", "I", false)
  | 21 => ("ServerLineModel", "worstCost", "I", false)
  | 22 => ("ServerLineModel", "worstBest", "I", false)
  | 23 => ("ServerLineModel", "isThere", "[Z", true)
  | 24 => ("ServerLineModel", "forms", "[I", true)
  | 25 => ("ServerLineModel", "sizes", "[I", true)
  | 26 => ("ServerLineModel", "items", "[I", true)
  | 27 => ("ServerLineModel", "moved", "[I", true)
  | _ => ("ServerLineModel", "finding", "I", false)
def tyX12 : Nat → FieldType := fun k => match k with
  | 0 => .int
  | 1 => .array .int
  | 2 => .int
  | 3 => .array .int
  | 4 => .int
  | 5 => .int
  | 6 => .array .int
  | 7 => .array .int
  | 8 => .array .int
  | 9 => .array .int
  | 10 => .int
  | 11 => .int
  | 12 => .int
  | 13 => .array .int
  | 14 => .array .int
  | 15 => .array .int
  | 16 => .array .int
  | 17 => .array .int
  | 18 => .int
  | 19 => .int
  | 20 => .int
  | 21 => .int
  | 22 => .int
  | 23 => .array .boolean
  | 24 => .array .int
  | 25 => .array .int
  | 26 => .array .int
  | 27 => .array .int
  | _ => .int
abbrev wsX120 : List Cond := u_ws RX12 TX12 29
theorem nmX12 : ∀ a, a < 29 → ∀ b, b < 29 → a ≠ b → (TX12 a).2.1 ≠ (TX12 b).2.1 := by decide +kernel
theorem tyX12_ok : ∀ k, k < 29 → parseFieldDescriptor (TX12 k).2.2.1 = some (tyX12 k) := by decide +kernel
abbrev cX12_init : ByteArray := prog_14_method_1_code
def yX12_init : MethodName := ⟨RX12, "<init>", "()V"⟩
abbrev cX12_in : ByteArray := prog_14_method_3_code
def yX12_in : MethodName := ⟨RX12, "in", "(III)Z"⟩
abbrev cX12_apart : ByteArray := prog_14_method_4_code
def yX12_apart : MethodName := ⟨RX12, "apart", "(II)I"⟩
abbrev cX12_points : ByteArray := prog_14_method_5_code
def yX12_points : MethodName := ⟨RX12, "points", "(I)I"⟩
abbrev cX12_isPoint : ByteArray := prog_14_method_6_code
def yX12_isPoint : MethodName := ⟨RX12, "isPoint", "(I)Z"⟩
abbrev cX12_place : ByteArray := prog_14_method_7_code
def yX12_place : MethodName := ⟨RX12, "place", "(II)I"⟩
abbrev cX12_servers : ByteArray := prog_14_method_8_code
def yX12_servers : MethodName := ⟨RX12, "servers", "(I)I"⟩
abbrev cX12_start : ByteArray := prog_14_method_9_code
def yX12_start : MethodName := ⟨RX12, "start", "(II)I"⟩
abbrev cX12_factor : ByteArray := prog_14_method_10_code
def yX12_factor : MethodName := ⟨RX12, "factor", "(I)I"⟩
abbrev cX12_reads : ByteArray := prog_14_method_11_code
def yX12_reads : MethodName := ⟨RX12, "reads", "()Z"⟩
abbrev cX12_hintAt : ByteArray := prog_14_method_12_code
def yX12_hintAt : MethodName := ⟨RX12, "hintAt", "(I)I"⟩
abbrev cX12_asked : ByteArray := prog_14_method_13_code
def yX12_asked : MethodName := ⟨RX12, "asked", "()I"⟩
abbrev cX12_pointOf : ByteArray := prog_14_method_14_code
def yX12_pointOf : MethodName := ⟨RX12, "pointOf", "(II)I"⟩
abbrev cX12_with : ByteArray := prog_14_method_15_code
def yX12_with : MethodName := ⟨RX12, "with", "(III)I"⟩
abbrev cX12_isStanding : ByteArray := prog_14_method_16_code
def yX12_isStanding : MethodName := ⟨RX12, "isStanding", "(I)Z"⟩
abbrev cX12_begin : ByteArray := prog_14_method_17_code
def yX12_begin : MethodName := ⟨RX12, "begin", "()I"⟩
abbrev cX12_least : ByteArray := prog_14_method_18_code
def yX12_least : MethodName := ⟨RX12, "least", "(IIIIII)I"⟩
abbrev cX12_plans : ByteArray := prog_14_method_19_code
def yX12_plans : MethodName := ⟨RX12, "plans", "()V"⟩
abbrev cX12_wayTo : ByteArray := prog_14_method_20_code
def yX12_wayTo : MethodName := ⟨RX12, "wayTo", "(III)I"⟩
abbrev cX12_bestCost : ByteArray := prog_14_method_21_code
def yX12_bestCost : MethodName := ⟨RX12, "bestCost", "()I"⟩
abbrev cX12_best : ByteArray := prog_14_method_22_code
def yX12_best : MethodName := ⟨RX12, "best", "()I"⟩
abbrev cX12_way : ByteArray := prog_14_method_23_code
def yX12_way : MethodName := ⟨RX12, "way", "(I)I"⟩
abbrev cX12_starts : ByteArray := prog_14_method_24_code
def yX12_starts : MethodName := ⟨RX12, "starts", "()V"⟩
abbrev cX12_sends : ByteArray := prog_14_method_25_code
def yX12_sends : MethodName := ⟨RX12, "sends", "(II)V"⟩
abbrev cX12_nearest : ByteArray := prog_14_method_26_code
def yX12_nearest : MethodName := ⟨RX12, "nearest", "(I)I"⟩
abbrev cX12_nearestOn : ByteArray := prog_14_method_27_code
def yX12_nearestOn : MethodName := ⟨RX12, "nearestOn", "(IZ)I"⟩
abbrev cX12_both : ByteArray := prog_14_method_28_code
def yX12_both : MethodName := ⟨RX12, "both", "(I)V"⟩
abbrev cX12_worksFirst : ByteArray := prog_14_method_29_code
def yX12_worksFirst : MethodName := ⟨RX12, "worksFirst", "()V"⟩
abbrev cX12_worksOn : ByteArray := prog_14_method_30_code
def yX12_worksOn : MethodName := ⟨RX12, "worksOn", "(I)V"⟩
abbrev cX12_goesByWork : ByteArray := prog_14_method_31_code
def yX12_goesByWork : MethodName := ⟨RX12, "goesByWork", "(I)V"⟩
abbrev cX12_goesOn : ByteArray := prog_14_method_32_code
def yX12_goesOn : MethodName := ⟨RX12, "goesOn", "(II)V"⟩
abbrev cX12_first : ByteArray := prog_14_method_33_code
def yX12_first : MethodName := ⟨RX12, "first", "(I)I"⟩
abbrev cX12_runs : ByteArray := prog_14_method_34_code
def yX12_runs : MethodName := ⟨RX12, "runs", "(II)V"⟩
abbrev cX12_keep : ByteArray := prog_14_method_35_code
def yX12_keep : MethodName := ⟨RX12, "keep", "([I[I)V"⟩
abbrev cX12_runsGuarded : ByteArray := prog_14_method_36_code
def yX12_runsGuarded : MethodName := ⟨RX12, "runsGuarded", "(I)V"⟩
abbrev cX12_costOf : ByteArray := prog_14_method_37_code
def yX12_costOf : MethodName := ⟨RX12, "costOf", "(I)I"⟩
abbrev cX12_cost : ByteArray := prog_14_method_38_code
def yX12_cost : MethodName := ⟨RX12, "cost", "(I)I"⟩
abbrev cX12_stands : ByteArray := prog_14_method_39_code
def yX12_stands : MethodName := ⟨RX12, "stands", "(III)I"⟩
abbrev cX12_goes : ByteArray := prog_14_method_40_code
def yX12_goes : MethodName := ⟨RX12, "goes", "(II)I"⟩
abbrev cX12_share : ByteArray := prog_14_method_41_code
def yX12_share : MethodName := ⟨RX12, "share", "(I)I"⟩
abbrev cX12_work : ByteArray := prog_14_method_42_code
def yX12_work : MethodName := ⟨RX12, "work", "(IIII)I"⟩
abbrev cX12_trusts : ByteArray := prog_14_method_43_code
def yX12_trusts : MethodName := ⟨RX12, "trusts", "(I)I"⟩
abbrev cX12_seeks : ByteArray := prog_14_method_44_code
def yX12_seeks : MethodName := ⟨RX12, "seeks", "(II)V"⟩
abbrev cX12_worst : ByteArray := prog_14_method_45_code
def yX12_worst : MethodName := ⟨RX12, "worst", "(II)I"⟩
abbrev cX12_worstShare : ByteArray := prog_14_method_46_code
def yX12_worstShare : MethodName := ⟨RX12, "worstShare", "(II)I"⟩
abbrev cX12_longs : ByteArray := prog_14_method_47_code
def yX12_longs : MethodName := ⟨RX12, "longs", "(I)I"⟩
abbrev cX12_standingAt : ByteArray := prog_14_method_48_code
def yX12_standingAt : MethodName := ⟨RX12, "standingAt", "(I)I"⟩
abbrev cX12_longing : ByteArray := prog_14_method_49_code
def yX12_longing : MethodName := ⟨RX12, "longing", "(I)I"⟩
abbrev cX12_paysNot : ByteArray := prog_14_method_50_code
def yX12_paysNot : MethodName := ⟨RX12, "paysNot", "()I"⟩
abbrev cX12_pays : ByteArray := prog_14_method_51_code
def yX12_pays : MethodName := ⟨RX12, "pays", "()I"⟩
abbrev cX12_meets : ByteArray := prog_14_method_52_code
def yX12_meets : MethodName := ⟨RX12, "meets", "(I)I"⟩
abbrev cX12_isSheet : ByteArray := prog_14_method_53_code
def yX12_isSheet : MethodName := ⟨RX12, "isSheet", "(I)Z"⟩
abbrev cX12_sheet : ByteArray := prog_14_method_54_code
def yX12_sheet : MethodName := ⟨RX12, "sheet", "(III)I"⟩
abbrev cX12_lose : ByteArray := prog_14_method_55_code
def yX12_lose : MethodName := ⟨RX12, "lose", "(I)I"⟩
abbrev cX12_lacks : ByteArray := prog_14_method_56_code
def yX12_lacks : MethodName := ⟨RX12, "lacks", "(III)I"⟩
abbrev cX12_put : ByteArray := prog_14_method_57_code
def yX12_put : MethodName := ⟨RX12, "put", "(IIII)I"⟩
abbrev cX12_get : ByteArray := prog_14_method_58_code
def yX12_get : MethodName := ⟨RX12, "get", "(III)I"⟩
abbrev cX12_copy : ByteArray := prog_14_method_59_code
def yX12_copy : MethodName := ⟨RX12, "copy", "(IIIII)I"⟩
abbrev cX12_hint : ByteArray := prog_14_method_60_code
def yX12_hint : MethodName := ⟨RX12, "hint", "()I"⟩
abbrev cX12_count : ByteArray := prog_14_method_61_code
def yX12_count : MethodName := ⟨RX12, "count", "(I)I"⟩
abbrev cX12_digest : ByteArray := prog_14_method_62_code
def yX12_digest : MethodName := ⟨RX12, "digest", "()J"⟩
def RJ9 : String := "java/lang/Math"
def TJ9 : u_T := fun k => match k with
  | _ => ("", "", "", false)
def tyJ9 : Nat → FieldType := fun k => match k with
  | _ => .int
abbrev wsJ90 : List Cond := u_ws RJ9 TJ9 0
theorem nmJ9 : ∀ a, a < 0 → ∀ b, b < 0 → a ≠ b → (TJ9 a).2.1 ≠ (TJ9 b).2.1 := by decide +kernel
theorem tyJ9_ok : ∀ k, k < 0 → parseFieldDescriptor (TJ9 k).2.2.1 = some (tyJ9 k) := by decide +kernel
abbrev cJ9_abs_0f7a4 : ByteArray := prog_15_method_59_code
def yJ9_abs_0f7a4 : MethodName := ⟨RJ9, "abs", "(I)I"⟩
abbrev cJ9_max_7cf53 : ByteArray := prog_15_method_65_code
def yJ9_max_7cf53 : MethodName := ⟨RJ9, "max", "(II)I"⟩
abbrev cJ9_min_7cf53 : ByteArray := prog_15_method_69_code
def yJ9_min_7cf53 : MethodName := ⟨RJ9, "min", "(II)I"⟩
def RJ10 : String := "java/lang/System"
def TJ10 : u_T := fun k => match k with
  | _ => ("", "", "", false)
def tyJ10 : Nat → FieldType := fun k => match k with
  | _ => .int
abbrev wsJ100 : List Cond := u_ws RJ10 TJ10 0
theorem nmJ10 : ∀ a, a < 0 → ∀ b, b < 0 → a ≠ b → (TJ10 a).2.1 ≠ (TJ10 b).2.1 := by decide +kernel
theorem tyJ10_ok : ∀ k, k < 0 → parseFieldDescriptor (TJ10 k).2.2.1 = some (tyJ10 k) := by decide +kernel
def RL : String := "ServerLineLaw"
abbrev cL_law : ByteArray := code
def yL_law : MethodName := ⟨RL, "law", "([I)Z"⟩
abbrev vwCl : List vw_C := [(RX0, TX0, 8), (RX1, TX1, 4), (RX2, TX2, 7), (RX3, TX3, 8), (RX4, TX4, 3), (RX5, TX5, 5), (RX6, TX6, 3), (RX8, TX8, 4), (RX9, TX9, 10), (RX10, TX10, 7), (RX11, TX11, 9), (RX12, TX12, 29)]
end
section
theorem dX0_init_0 : decode cX0_init 0 = .ok (.aload_n 0, 1) := by decide +kernel
theorem dX0_init_1 : decode cX0_init 1 = .ok (.aload_n 1, 1) := by decide +kernel
theorem dX0_init_2 : decode cX0_init 2 = .ok (.invokespecial 3, 3) := by decide +kernel
theorem dX0_init_5 : decode cX0_init 5 = .ok (.aload_n 0, 1) := by decide +kernel
theorem dX0_init_6 : decode cX0_init 6 = .ok (.bipush 41, 2) := by decide +kernel
theorem dX0_init_8 : decode cX0_init 8 = .ok (.bipush 56, 2) := by decide +kernel
theorem dX0_init_10 : decode cX0_init 10 = .ok (.multianewarray 9 2, 4) := by decide +kernel
theorem dX0_init_14 : decode cX0_init 14 = .ok (.putfield 11, 3) := by decide +kernel
theorem dX0_init_17 : decode cX0_init 17 = .ok (.return_, 1) := by decide +kernel
theorem dX0_plan_0 : decode cX0_plan 0 = .ok (.iconst 0, 1) := by decide +kernel
theorem dX0_plan_1 : decode cX0_plan 1 = .ok (.istore_n 2, 1) := by decide +kernel
theorem dX0_plan_2 : decode cX0_plan 2 = .ok (.iload_n 2, 1) := by decide +kernel
theorem dX0_plan_3 : decode cX0_plan 3 = .ok (.bipush 56, 2) := by decide +kernel
theorem dX0_plan_5 : decode cX0_plan 5 = .ok (.if_icmp .ge 21, 3) := by decide +kernel
theorem dX0_plan_8 : decode cX0_plan 8 = .ok (.aload_n 0, 1) := by decide +kernel
theorem dX0_plan_9 : decode cX0_plan 9 = .ok (.getfield 11, 3) := by decide +kernel
theorem dX0_plan_12 : decode cX0_plan 12 = .ok (.aload_n 1, 1) := by decide +kernel
theorem dX0_plan_13 : decode cX0_plan 13 = .ok (.getfield 16, 3) := by decide +kernel
theorem dX0_plan_16 : decode cX0_plan 16 = .ok (.aaload, 1) := by decide +kernel
theorem dX0_plan_17 : decode cX0_plan 17 = .ok (.iload_n 2, 1) := by decide +kernel
theorem dX0_plan_18 : decode cX0_plan 18 = .ok (.iconst 0, 1) := by decide +kernel
theorem dX0_plan_19 : decode cX0_plan 19 = .ok (.iastore, 1) := by decide +kernel
theorem dX0_plan_20 : decode cX0_plan 20 = .ok (.iinc 2 1, 3) := by decide +kernel
theorem dX0_plan_23 : decode cX0_plan 23 = .ok (.goto (-21), 3) := by decide +kernel
theorem dX0_plan_26 : decode cX0_plan 26 = .ok (.aload_n 1, 1) := by decide +kernel
theorem dX0_plan_27 : decode cX0_plan 27 = .ok (.getfield 16, 3) := by decide +kernel
theorem dX0_plan_30 : decode cX0_plan 30 = .ok (.iconst 1, 1) := by decide +kernel
theorem dX0_plan_31 : decode cX0_plan 31 = .ok (.isub, 1) := by decide +kernel
theorem dX0_plan_32 : decode cX0_plan 32 = .ok (.istore_n 2, 1) := by decide +kernel
theorem dX0_plan_33 : decode cX0_plan 33 = .ok (.iload_n 2, 1) := by decide +kernel
theorem dX0_plan_34 : decode cX0_plan 34 = .ok (.ifCond .lt 20, 3) := by decide +kernel
theorem dX0_plan_37 : decode cX0_plan 37 = .ok (.aload_n 0, 1) := by decide +kernel
theorem dX0_plan_38 : decode cX0_plan 38 = .ok (.iload_n 2, 1) := by decide +kernel
theorem dX0_plan_39 : decode cX0_plan 39 = .ok (.aload_n 1, 1) := by decide +kernel
theorem dX0_plan_40 : decode cX0_plan 40 = .ok (.getfield 22, 3) := by decide +kernel
theorem dX0_plan_43 : decode cX0_plan 43 = .ok (.iload_n 2, 1) := by decide +kernel
theorem dX0_plan_44 : decode cX0_plan 44 = .ok (.iaload, 1) := by decide +kernel
theorem dX0_plan_45 : decode cX0_plan 45 = .ok (.invokevirtual 26, 3) := by decide +kernel
theorem dX0_plan_48 : decode cX0_plan 48 = .ok (.iinc 2 (-1), 3) := by decide +kernel
theorem dX0_plan_51 : decode cX0_plan 51 = .ok (.goto (-18), 3) := by decide +kernel
theorem dX0_plan_54 : decode cX0_plan 54 = .ok (.aload_n 0, 1) := by decide +kernel
theorem dX0_plan_55 : decode cX0_plan 55 = .ok (.getfield 11, 3) := by decide +kernel
theorem dX0_plan_58 : decode cX0_plan 58 = .ok (.iconst 0, 1) := by decide +kernel
theorem dX0_plan_59 : decode cX0_plan 59 = .ok (.aaload, 1) := by decide +kernel
theorem dX0_plan_60 : decode cX0_plan 60 = .ok (.aload_n 0, 1) := by decide +kernel
theorem dX0_plan_61 : decode cX0_plan 61 = .ok (.getfield 30, 3) := by decide +kernel
theorem dX0_plan_64 : decode cX0_plan 64 = .ok (.getfield 34, 3) := by decide +kernel
theorem dX0_plan_67 : decode cX0_plan 67 = .ok (.aload_n 0, 1) := by decide +kernel
theorem dX0_plan_68 : decode cX0_plan 68 = .ok (.getfield 30, 3) := by decide +kernel
theorem dX0_plan_71 : decode cX0_plan 71 = .ok (.invokevirtual 39, 3) := by decide +kernel
theorem dX0_plan_74 : decode cX0_plan 74 = .ok (.iaload, 1) := by decide +kernel
theorem dX0_plan_75 : decode cX0_plan 75 = .ok (.iaload, 1) := by decide +kernel
theorem dX0_plan_76 : decode cX0_plan 76 = .ok (.ireturn, 1) := by decide +kernel
theorem dX0_planStep_0 : decode cX0_planStep 0 = .ok (.iconst 0, 1) := by decide +kernel
theorem dX0_planStep_1 : decode cX0_planStep 1 = .ok (.istore_n 3, 1) := by decide +kernel
theorem dX0_planStep_2 : decode cX0_planStep 2 = .ok (.iload_n 3, 1) := by decide +kernel
theorem dX0_planStep_3 : decode cX0_planStep 3 = .ok (.aload_n 0, 1) := by decide +kernel
theorem dX0_planStep_4 : decode cX0_planStep 4 = .ok (.getfield 30, 3) := by decide +kernel
theorem dX0_planStep_7 : decode cX0_planStep 7 = .ok (.getfield 43, 3) := by decide +kernel
theorem dX0_planStep_10 : decode cX0_planStep 10 = .ok (.if_icmp .ge 50, 3) := by decide +kernel
theorem dX0_planStep_13 : decode cX0_planStep 13 = .ok (.aload_n 0, 1) := by decide +kernel
theorem dX0_planStep_14 : decode cX0_planStep 14 = .ok (.getfield 30, 3) := by decide +kernel
theorem dX0_planStep_17 : decode cX0_planStep 17 = .ok (.getfield 46, 3) := by decide +kernel
theorem dX0_planStep_20 : decode cX0_planStep 20 = .ok (.iload_n 3, 1) := by decide +kernel
theorem dX0_planStep_21 : decode cX0_planStep 21 = .ok (.iaload, 1) := by decide +kernel
theorem dX0_planStep_22 : decode cX0_planStep 22 = .ok (.istore 4, 2) := by decide +kernel
theorem dX0_planStep_24 : decode cX0_planStep 24 = .ok (.aload_n 0, 1) := by decide +kernel
theorem dX0_planStep_25 : decode cX0_planStep 25 = .ok (.iload_n 1, 1) := by decide +kernel
theorem dX0_planStep_26 : decode cX0_planStep 26 = .ok (.iload 4, 2) := by decide +kernel
theorem dX0_planStep_28 : decode cX0_planStep 28 = .ok (.iload_n 2, 1) := by decide +kernel
theorem dX0_planStep_29 : decode cX0_planStep 29 = .ok (.invokevirtual 49, 3) := by decide +kernel
theorem dX0_planStep_32 : decode cX0_planStep 32 = .ok (.pop, 1) := by decide +kernel
theorem dX0_planStep_33 : decode cX0_planStep 33 = .ok (.aload_n 0, 1) := by decide +kernel
theorem dX0_planStep_34 : decode cX0_planStep 34 = .ok (.getfield 11, 3) := by decide +kernel
theorem dX0_planStep_37 : decode cX0_planStep 37 = .ok (.iload_n 1, 1) := by decide +kernel
theorem dX0_planStep_38 : decode cX0_planStep 38 = .ok (.aaload, 1) := by decide +kernel
theorem dX0_planStep_39 : decode cX0_planStep 39 = .ok (.aload_n 0, 1) := by decide +kernel
theorem dX0_planStep_40 : decode cX0_planStep 40 = .ok (.getfield 30, 3) := by decide +kernel
theorem dX0_planStep_43 : decode cX0_planStep 43 = .ok (.getfield 34, 3) := by decide +kernel
theorem dX0_planStep_46 : decode cX0_planStep 46 = .ok (.iload 4, 2) := by decide +kernel
theorem dX0_planStep_48 : decode cX0_planStep 48 = .ok (.iaload, 1) := by decide +kernel
theorem dX0_planStep_49 : decode cX0_planStep 49 = .ok (.aload_n 0, 1) := by decide +kernel
theorem dX0_planStep_50 : decode cX0_planStep 50 = .ok (.getfield 53, 3) := by decide +kernel
theorem dX0_planStep_53 : decode cX0_planStep 53 = .ok (.iastore, 1) := by decide +kernel
theorem dX0_planStep_54 : decode cX0_planStep 54 = .ok (.iinc 3 1, 3) := by decide +kernel
theorem dX0_planStep_57 : decode cX0_planStep 57 = .ok (.goto (-55), 3) := by decide +kernel
theorem dX0_planStep_60 : decode cX0_planStep 60 = .ok (.return_, 1) := by decide +kernel
theorem dX0_chosen_0 : decode cX0_chosen 0 = .ok (.iconst 0, 1) := by decide +kernel
theorem dX0_chosen_1 : decode cX0_chosen 1 = .ok (.istore 4, 2) := by decide +kernel
theorem dX0_chosen_3 : decode cX0_chosen 3 = .ok (.aload_n 0, 1) := by decide +kernel
theorem dX0_chosen_4 : decode cX0_chosen 4 = .ok (.ldc 56, 2) := by decide +kernel
theorem dX0_chosen_6 : decode cX0_chosen 6 = .ok (.putfield 53, 3) := by decide +kernel
theorem dX0_chosen_9 : decode cX0_chosen 9 = .ok (.iconst 0, 1) := by decide +kernel
theorem dX0_chosen_10 : decode cX0_chosen 10 = .ok (.istore 5, 2) := by decide +kernel
theorem dX0_chosen_12 : decode cX0_chosen 12 = .ok (.iload 5, 2) := by decide +kernel
theorem dX0_chosen_14 : decode cX0_chosen 14 = .ok (.aload_n 0, 1) := by decide +kernel
theorem dX0_chosen_15 : decode cX0_chosen 15 = .ok (.getfield 30, 3) := by decide +kernel
theorem dX0_chosen_18 : decode cX0_chosen 18 = .ok (.getfield 57, 3) := by decide +kernel
theorem dX0_chosen_21 : decode cX0_chosen 21 = .ok (.if_icmp .ge 70, 3) := by decide +kernel
theorem dX0_chosen_24 : decode cX0_chosen 24 = .ok (.aload_n 0, 1) := by decide +kernel
theorem dX0_chosen_25 : decode cX0_chosen 25 = .ok (.getfield 11, 3) := by decide +kernel
theorem dX0_chosen_28 : decode cX0_chosen 28 = .ok (.iload_n 1, 1) := by decide +kernel
theorem dX0_chosen_29 : decode cX0_chosen 29 = .ok (.iconst 1, 1) := by decide +kernel
theorem dX0_chosen_30 : decode cX0_chosen 30 = .ok (.iadd, 1) := by decide +kernel
theorem dX0_chosen_31 : decode cX0_chosen 31 = .ok (.aaload, 1) := by decide +kernel
theorem dX0_chosen_32 : decode cX0_chosen 32 = .ok (.aload_n 0, 1) := by decide +kernel
theorem dX0_chosen_33 : decode cX0_chosen 33 = .ok (.getfield 30, 3) := by decide +kernel
theorem dX0_chosen_36 : decode cX0_chosen 36 = .ok (.getfield 34, 3) := by decide +kernel
theorem dX0_chosen_39 : decode cX0_chosen 39 = .ok (.iload_n 2, 1) := by decide +kernel
theorem dX0_chosen_40 : decode cX0_chosen 40 = .ok (.iload 5, 2) := by decide +kernel
theorem dX0_chosen_42 : decode cX0_chosen 42 = .ok (.iload_n 3, 1) := by decide +kernel
theorem dX0_chosen_43 : decode cX0_chosen 43 = .ok (.invokestatic 60, 3) := by decide +kernel
theorem dX0_chosen_46 : decode cX0_chosen 46 = .ok (.iaload, 1) := by decide +kernel
theorem dX0_chosen_47 : decode cX0_chosen 47 = .ok (.iaload, 1) := by decide +kernel
theorem dX0_chosen_48 : decode cX0_chosen 48 = .ok (.istore 6, 2) := by decide +kernel
theorem dX0_chosen_50 : decode cX0_chosen 50 = .ok (.iload 6, 2) := by decide +kernel
theorem dX0_chosen_52 : decode cX0_chosen 52 = .ok (.aload_n 0, 1) := by decide +kernel
theorem dX0_chosen_53 : decode cX0_chosen 53 = .ok (.getfield 30, 3) := by decide +kernel
theorem dX0_chosen_56 : decode cX0_chosen 56 = .ok (.iload_n 2, 1) := by decide +kernel
theorem dX0_chosen_57 : decode cX0_chosen 57 = .ok (.iload 5, 2) := by decide +kernel
theorem dX0_chosen_59 : decode cX0_chosen 59 = .ok (.iload_n 3, 1) := by decide +kernel
theorem dX0_chosen_60 : decode cX0_chosen 60 = .ok (.invokevirtual 63, 3) := by decide +kernel
theorem dX0_chosen_63 : decode cX0_chosen 63 = .ok (.iadd, 1) := by decide +kernel
theorem dX0_chosen_64 : decode cX0_chosen 64 = .ok (.istore 7, 2) := by decide +kernel
theorem dX0_chosen_66 : decode cX0_chosen 66 = .ok (.iload 7, 2) := by decide +kernel
theorem dX0_chosen_68 : decode cX0_chosen 68 = .ok (.aload_n 0, 1) := by decide +kernel
theorem dX0_chosen_69 : decode cX0_chosen 69 = .ok (.getfield 53, 3) := by decide +kernel
theorem dX0_chosen_72 : decode cX0_chosen 72 = .ok (.if_icmp .ge 13, 3) := by decide +kernel
theorem dX0_chosen_75 : decode cX0_chosen 75 = .ok (.aload_n 0, 1) := by decide +kernel
theorem dX0_chosen_76 : decode cX0_chosen 76 = .ok (.iload 7, 2) := by decide +kernel
theorem dX0_chosen_78 : decode cX0_chosen 78 = .ok (.putfield 53, 3) := by decide +kernel
theorem dX0_chosen_81 : decode cX0_chosen 81 = .ok (.iload 5, 2) := by decide +kernel
theorem dX0_chosen_83 : decode cX0_chosen 83 = .ok (.istore 4, 2) := by decide +kernel
theorem dX0_chosen_85 : decode cX0_chosen 85 = .ok (.iinc 5 1, 3) := by decide +kernel
theorem dX0_chosen_88 : decode cX0_chosen 88 = .ok (.goto (-76), 3) := by decide +kernel
theorem dX0_chosen_91 : decode cX0_chosen 91 = .ok (.iload 4, 2) := by decide +kernel
theorem dX0_chosen_93 : decode cX0_chosen 93 = .ok (.ireturn, 1) := by decide +kernel
theorem dX0_standAtStart_0 : decode cX0_standAtStart 0 = .ok (.aload_n 0, 1) := by decide +kernel
theorem dX0_standAtStart_1 : decode cX0_standAtStart 1 = .ok (.invokespecial 66, 3) := by decide +kernel
theorem dX0_standAtStart_4 : decode cX0_standAtStart 4 = .ok (.aload_n 0, 1) := by decide +kernel
theorem dX0_standAtStart_5 : decode cX0_standAtStart 5 = .ok (.aload_n 0, 1) := by decide +kernel
theorem dX0_standAtStart_6 : decode cX0_standAtStart 6 = .ok (.getfield 30, 3) := by decide +kernel
theorem dX0_standAtStart_9 : decode cX0_standAtStart 9 = .ok (.invokevirtual 39, 3) := by decide +kernel
theorem dX0_standAtStart_12 : decode cX0_standAtStart 12 = .ok (.putfield 70, 3) := by decide +kernel
theorem dX0_standAtStart_15 : decode cX0_standAtStart 15 = .ok (.aload_n 0, 1) := by decide +kernel
theorem dX0_standAtStart_16 : decode cX0_standAtStart 16 = .ok (.iconst 0, 1) := by decide +kernel
theorem dX0_standAtStart_17 : decode cX0_standAtStart 17 = .ok (.putfield 73, 3) := by decide +kernel
theorem dX0_standAtStart_20 : decode cX0_standAtStart 20 = .ok (.return_, 1) := by decide +kernel
theorem dX0_meet_0 : decode cX0_meet 0 = .ok (.aload_n 0, 1) := by decide +kernel
theorem dX0_meet_1 : decode cX0_meet 1 = .ok (.getfield 73, 3) := by decide +kernel
theorem dX0_meet_4 : decode cX0_meet 4 = .ok (.bipush 40, 2) := by decide +kernel
theorem dX0_meet_6 : decode cX0_meet 6 = .ok (.if_icmp .lt 4, 3) := by decide +kernel
theorem dX0_meet_9 : decode cX0_meet 9 = .ok (.return_, 1) := by decide +kernel
theorem dX0_meet_10 : decode cX0_meet 10 = .ok (.aload_n 0, 1) := by decide +kernel
theorem dX0_meet_11 : decode cX0_meet 11 = .ok (.aload_n 0, 1) := by decide +kernel
theorem dX0_meet_12 : decode cX0_meet 12 = .ok (.getfield 73, 3) := by decide +kernel
theorem dX0_meet_15 : decode cX0_meet 15 = .ok (.aload_n 0, 1) := by decide +kernel
theorem dX0_meet_16 : decode cX0_meet 16 = .ok (.getfield 70, 3) := by decide +kernel
theorem dX0_meet_19 : decode cX0_meet 19 = .ok (.iload_n 1, 1) := by decide +kernel
theorem dX0_meet_20 : decode cX0_meet 20 = .ok (.invokevirtual 49, 3) := by decide +kernel
theorem dX0_meet_23 : decode cX0_meet 23 = .ok (.istore_n 3, 1) := by decide +kernel
theorem dX0_meet_24 : decode cX0_meet 24 = .ok (.aload_n 0, 1) := by decide +kernel
theorem dX0_meet_25 : decode cX0_meet 25 = .ok (.iload_n 3, 1) := by decide +kernel
theorem dX0_meet_26 : decode cX0_meet 26 = .ok (.aload_n 0, 1) := by decide +kernel
theorem dX0_meet_27 : decode cX0_meet 27 = .ok (.getfield 30, 3) := by decide +kernel
theorem dX0_meet_30 : decode cX0_meet 30 = .ok (.getfield 76, 3) := by decide +kernel
theorem dX0_meet_33 : decode cX0_meet 33 = .ok (.iload_n 1, 1) := by decide +kernel
theorem dX0_meet_34 : decode cX0_meet 34 = .ok (.iaload, 1) := by decide +kernel
theorem dX0_meet_35 : decode cX0_meet 35 = .ok (.invokevirtual 79, 3) := by decide +kernel
theorem dX0_meet_38 : decode cX0_meet 38 = .ok (.aload_n 0, 1) := by decide +kernel
theorem dX0_meet_39 : decode cX0_meet 39 = .ok (.aload_n 0, 1) := by decide +kernel
theorem dX0_meet_40 : decode cX0_meet 40 = .ok (.getfield 70, 3) := by decide +kernel
theorem dX0_meet_43 : decode cX0_meet 43 = .ok (.iload_n 3, 1) := by decide +kernel
theorem dX0_meet_44 : decode cX0_meet 44 = .ok (.iload_n 1, 1) := by decide +kernel
theorem dX0_meet_45 : decode cX0_meet 45 = .ok (.invokestatic 60, 3) := by decide +kernel
theorem dX0_meet_48 : decode cX0_meet 48 = .ok (.putfield 70, 3) := by decide +kernel
theorem dX0_meet_51 : decode cX0_meet 51 = .ok (.aload_n 0, 1) := by decide +kernel
theorem dX0_meet_52 : decode cX0_meet 52 = .ok (.dup, 1) := by decide +kernel
theorem dX0_meet_53 : decode cX0_meet 53 = .ok (.getfield 73, 3) := by decide +kernel
theorem dX0_meet_56 : decode cX0_meet 56 = .ok (.iconst 1, 1) := by decide +kernel
theorem dX0_meet_57 : decode cX0_meet 57 = .ok (.iadd, 1) := by decide +kernel
theorem dX0_meet_58 : decode cX0_meet 58 = .ok (.putfield 73, 3) := by decide +kernel
theorem dX0_meet_61 : decode cX0_meet 61 = .ok (.return_, 1) := by decide +kernel
theorem dX1_init_0 : decode cX1_init 0 = .ok (.aload_n 0, 1) := by decide +kernel
theorem dX1_init_1 : decode cX1_init 1 = .ok (.aload_n 1, 1) := by decide +kernel
theorem dX1_init_2 : decode cX1_init 2 = .ok (.invokespecial 3, 3) := by decide +kernel
theorem dX1_init_5 : decode cX1_init 5 = .ok (.return_, 1) := by decide +kernel
theorem dX1_meet_0 : decode cX1_meet 0 = .ok (.aload_n 0, 1) := by decide +kernel
theorem dX1_meet_1 : decode cX1_meet 1 = .ok (.getfield 9, 3) := by decide +kernel
theorem dX1_meet_4 : decode cX1_meet 4 = .ok (.getfield 15, 3) := by decide +kernel
theorem dX1_meet_7 : decode cX1_meet 7 = .ok (.iload_n 1, 1) := by decide +kernel
theorem dX1_meet_8 : decode cX1_meet 8 = .ok (.iaload, 1) := by decide +kernel
theorem dX1_meet_9 : decode cX1_meet 9 = .ok (.istore_n 3, 1) := by decide +kernel
theorem dX1_meet_10 : decode cX1_meet 10 = .ok (.aload_n 0, 1) := by decide +kernel
theorem dX1_meet_11 : decode cX1_meet 11 = .ok (.iload_n 3, 1) := by decide +kernel
theorem dX1_meet_12 : decode cX1_meet 12 = .ok (.invokevirtual 21, 3) := by decide +kernel
theorem dX1_meet_15 : decode cX1_meet 15 = .ok (.ifCond .eq 9, 3) := by decide +kernel
theorem dX1_meet_18 : decode cX1_meet 18 = .ok (.aload_n 0, 1) := by decide +kernel
theorem dX1_meet_19 : decode cX1_meet 19 = .ok (.iconst (-1), 1) := by decide +kernel
theorem dX1_meet_20 : decode cX1_meet 20 = .ok (.putfield 25, 3) := by decide +kernel
theorem dX1_meet_23 : decode cX1_meet 23 = .ok (.return_, 1) := by decide +kernel
theorem dX1_meet_24 : decode cX1_meet 24 = .ok (.aload_n 0, 1) := by decide +kernel
theorem dX1_meet_25 : decode cX1_meet 25 = .ok (.iload_n 3, 1) := by decide +kernel
theorem dX1_meet_26 : decode cX1_meet 26 = .ok (.invokevirtual 29, 3) := by decide +kernel
theorem dX1_meet_29 : decode cX1_meet 29 = .ok (.istore 4, 2) := by decide +kernel
theorem dX1_meet_31 : decode cX1_meet 31 = .ok (.aload_n 0, 1) := by decide +kernel
theorem dX1_meet_32 : decode cX1_meet 32 = .ok (.iload_n 3, 1) := by decide +kernel
theorem dX1_meet_33 : decode cX1_meet 33 = .ok (.invokevirtual 33, 3) := by decide +kernel
theorem dX1_meet_36 : decode cX1_meet 36 = .ok (.istore 5, 2) := by decide +kernel
theorem dX1_meet_38 : decode cX1_meet 38 = .ok (.iload 4, 2) := by decide +kernel
theorem dX1_meet_40 : decode cX1_meet 40 = .ok (.iconst (-1), 1) := by decide +kernel
theorem dX1_meet_41 : decode cX1_meet 41 = .ok (.if_icmp .eq 67, 3) := by decide +kernel
theorem dX1_meet_44 : decode cX1_meet 44 = .ok (.iload 5, 2) := by decide +kernel
theorem dX1_meet_46 : decode cX1_meet 46 = .ok (.iconst (-1), 1) := by decide +kernel
theorem dX1_meet_47 : decode cX1_meet 47 = .ok (.if_icmp .eq 61, 3) := by decide +kernel
theorem dX1_meet_50 : decode cX1_meet 50 = .ok (.iload_n 3, 1) := by decide +kernel
theorem dX1_meet_51 : decode cX1_meet 51 = .ok (.aload_n 0, 1) := by decide +kernel
theorem dX1_meet_52 : decode cX1_meet 52 = .ok (.getfield 36, 3) := by decide +kernel
theorem dX1_meet_55 : decode cX1_meet 55 = .ok (.iload 4, 2) := by decide +kernel
theorem dX1_meet_57 : decode cX1_meet 57 = .ok (.iaload, 1) := by decide +kernel
theorem dX1_meet_58 : decode cX1_meet 58 = .ok (.isub, 1) := by decide +kernel
theorem dX1_meet_59 : decode cX1_meet 59 = .ok (.aload_n 0, 1) := by decide +kernel
theorem dX1_meet_60 : decode cX1_meet 60 = .ok (.getfield 36, 3) := by decide +kernel
theorem dX1_meet_63 : decode cX1_meet 63 = .ok (.iload 5, 2) := by decide +kernel
theorem dX1_meet_65 : decode cX1_meet 65 = .ok (.iaload, 1) := by decide +kernel
theorem dX1_meet_66 : decode cX1_meet 66 = .ok (.iload_n 3, 1) := by decide +kernel
theorem dX1_meet_67 : decode cX1_meet 67 = .ok (.isub, 1) := by decide +kernel
theorem dX1_meet_68 : decode cX1_meet 68 = .ok (.invokestatic 39, 3) := by decide +kernel
theorem dX1_meet_71 : decode cX1_meet 71 = .ok (.istore 6, 2) := by decide +kernel
theorem dX1_meet_73 : decode cX1_meet 73 = .ok (.aload_n 0, 1) := by decide +kernel
theorem dX1_meet_74 : decode cX1_meet 74 = .ok (.iload 4, 2) := by decide +kernel
theorem dX1_meet_76 : decode cX1_meet 76 = .ok (.aload_n 0, 1) := by decide +kernel
theorem dX1_meet_77 : decode cX1_meet 77 = .ok (.getfield 36, 3) := by decide +kernel
theorem dX1_meet_80 : decode cX1_meet 80 = .ok (.iload 4, 2) := by decide +kernel
theorem dX1_meet_82 : decode cX1_meet 82 = .ok (.iaload, 1) := by decide +kernel
theorem dX1_meet_83 : decode cX1_meet 83 = .ok (.iload 6, 2) := by decide +kernel
theorem dX1_meet_85 : decode cX1_meet 85 = .ok (.iadd, 1) := by decide +kernel
theorem dX1_meet_86 : decode cX1_meet 86 = .ok (.invokevirtual 45, 3) := by decide +kernel
theorem dX1_meet_89 : decode cX1_meet 89 = .ok (.aload_n 0, 1) := by decide +kernel
theorem dX1_meet_90 : decode cX1_meet 90 = .ok (.iload 5, 2) := by decide +kernel
theorem dX1_meet_92 : decode cX1_meet 92 = .ok (.aload_n 0, 1) := by decide +kernel
theorem dX1_meet_93 : decode cX1_meet 93 = .ok (.getfield 36, 3) := by decide +kernel
theorem dX1_meet_96 : decode cX1_meet 96 = .ok (.iload 5, 2) := by decide +kernel
theorem dX1_meet_98 : decode cX1_meet 98 = .ok (.iaload, 1) := by decide +kernel
theorem dX1_meet_99 : decode cX1_meet 99 = .ok (.iload 6, 2) := by decide +kernel
theorem dX1_meet_101 : decode cX1_meet 101 = .ok (.isub, 1) := by decide +kernel
theorem dX1_meet_102 : decode cX1_meet 102 = .ok (.invokevirtual 45, 3) := by decide +kernel
theorem dX1_meet_105 : decode cX1_meet 105 = .ok (.goto 32, 3) := by decide +kernel
theorem dX1_meet_108 : decode cX1_meet 108 = .ok (.iload 4, 2) := by decide +kernel
theorem dX1_meet_110 : decode cX1_meet 110 = .ok (.iconst (-1), 1) := by decide +kernel
theorem dX1_meet_111 : decode cX1_meet 111 = .ok (.if_icmp .eq 13, 3) := by decide +kernel
theorem dX1_meet_114 : decode cX1_meet 114 = .ok (.aload_n 0, 1) := by decide +kernel
theorem dX1_meet_115 : decode cX1_meet 115 = .ok (.iload 4, 2) := by decide +kernel
theorem dX1_meet_117 : decode cX1_meet 117 = .ok (.iload_n 3, 1) := by decide +kernel
theorem dX1_meet_118 : decode cX1_meet 118 = .ok (.invokevirtual 45, 3) := by decide +kernel
theorem dX1_meet_121 : decode cX1_meet 121 = .ok (.goto 16, 3) := by decide +kernel
theorem dX1_meet_124 : decode cX1_meet 124 = .ok (.iload 5, 2) := by decide +kernel
theorem dX1_meet_126 : decode cX1_meet 126 = .ok (.iconst (-1), 1) := by decide +kernel
theorem dX1_meet_127 : decode cX1_meet 127 = .ok (.if_icmp .eq 10, 3) := by decide +kernel
theorem dX1_meet_130 : decode cX1_meet 130 = .ok (.aload_n 0, 1) := by decide +kernel
theorem dX1_meet_131 : decode cX1_meet 131 = .ok (.iload 5, 2) := by decide +kernel
theorem dX1_meet_133 : decode cX1_meet 133 = .ok (.iload_n 3, 1) := by decide +kernel
theorem dX1_meet_134 : decode cX1_meet 134 = .ok (.invokevirtual 45, 3) := by decide +kernel
theorem dX1_meet_137 : decode cX1_meet 137 = .ok (.return_, 1) := by decide +kernel
theorem dX1_isServed_0 : decode cX1_isServed 0 = .ok (.iconst 0, 1) := by decide +kernel
theorem dX1_isServed_1 : decode cX1_isServed 1 = .ok (.istore_n 2, 1) := by decide +kernel
theorem dX1_isServed_2 : decode cX1_isServed 2 = .ok (.iload_n 2, 1) := by decide +kernel
theorem dX1_isServed_3 : decode cX1_isServed 3 = .ok (.aload_n 0, 1) := by decide +kernel
theorem dX1_isServed_4 : decode cX1_isServed 4 = .ok (.getfield 9, 3) := by decide +kernel
theorem dX1_isServed_7 : decode cX1_isServed 7 = .ok (.getfield 49, 3) := by decide +kernel
theorem dX1_isServed_10 : decode cX1_isServed 10 = .ok (.if_icmp .ge 21, 3) := by decide +kernel
theorem dX1_isServed_13 : decode cX1_isServed 13 = .ok (.aload_n 0, 1) := by decide +kernel
theorem dX1_isServed_14 : decode cX1_isServed 14 = .ok (.getfield 36, 3) := by decide +kernel
theorem dX1_isServed_17 : decode cX1_isServed 17 = .ok (.iload_n 2, 1) := by decide +kernel
theorem dX1_isServed_18 : decode cX1_isServed 18 = .ok (.iaload, 1) := by decide +kernel
theorem dX1_isServed_19 : decode cX1_isServed 19 = .ok (.iload_n 1, 1) := by decide +kernel
theorem dX1_isServed_20 : decode cX1_isServed 20 = .ok (.if_icmp .ne 5, 3) := by decide +kernel
theorem dX1_isServed_23 : decode cX1_isServed 23 = .ok (.iconst 1, 1) := by decide +kernel
theorem dX1_isServed_24 : decode cX1_isServed 24 = .ok (.ireturn, 1) := by decide +kernel
theorem dX1_isServed_25 : decode cX1_isServed 25 = .ok (.iinc 2 1, 3) := by decide +kernel
theorem dX1_isServed_28 : decode cX1_isServed 28 = .ok (.goto (-26), 3) := by decide +kernel
theorem dX1_isServed_31 : decode cX1_isServed 31 = .ok (.iconst 0, 1) := by decide +kernel
theorem dX1_isServed_32 : decode cX1_isServed 32 = .ok (.ireturn, 1) := by decide +kernel
theorem dX1_nearestBelow_0 : decode cX1_nearestBelow 0 = .ok (.iconst (-1), 1) := by decide +kernel
theorem dX1_nearestBelow_1 : decode cX1_nearestBelow 1 = .ok (.istore_n 2, 1) := by decide +kernel
theorem dX1_nearestBelow_2 : decode cX1_nearestBelow 2 = .ok (.iconst 0, 1) := by decide +kernel
theorem dX1_nearestBelow_3 : decode cX1_nearestBelow 3 = .ok (.istore_n 3, 1) := by decide +kernel
theorem dX1_nearestBelow_4 : decode cX1_nearestBelow 4 = .ok (.iload_n 3, 1) := by decide +kernel
theorem dX1_nearestBelow_5 : decode cX1_nearestBelow 5 = .ok (.aload_n 0, 1) := by decide +kernel
theorem dX1_nearestBelow_6 : decode cX1_nearestBelow 6 = .ok (.getfield 9, 3) := by decide +kernel
theorem dX1_nearestBelow_9 : decode cX1_nearestBelow 9 = .ok (.getfield 49, 3) := by decide +kernel
theorem dX1_nearestBelow_12 : decode cX1_nearestBelow 12 = .ok (.if_icmp .ge 41, 3) := by decide +kernel
theorem dX1_nearestBelow_15 : decode cX1_nearestBelow 15 = .ok (.aload_n 0, 1) := by decide +kernel
theorem dX1_nearestBelow_16 : decode cX1_nearestBelow 16 = .ok (.getfield 36, 3) := by decide +kernel
theorem dX1_nearestBelow_19 : decode cX1_nearestBelow 19 = .ok (.iload_n 3, 1) := by decide +kernel
theorem dX1_nearestBelow_20 : decode cX1_nearestBelow 20 = .ok (.iaload, 1) := by decide +kernel
theorem dX1_nearestBelow_21 : decode cX1_nearestBelow 21 = .ok (.iload_n 1, 1) := by decide +kernel
theorem dX1_nearestBelow_22 : decode cX1_nearestBelow 22 = .ok (.if_icmp .ge 25, 3) := by decide +kernel
theorem dX1_nearestBelow_25 : decode cX1_nearestBelow 25 = .ok (.iload_n 2, 1) := by decide +kernel
theorem dX1_nearestBelow_26 : decode cX1_nearestBelow 26 = .ok (.iconst (-1), 1) := by decide +kernel
theorem dX1_nearestBelow_27 : decode cX1_nearestBelow 27 = .ok (.if_icmp .eq 18, 3) := by decide +kernel
theorem dX1_nearestBelow_30 : decode cX1_nearestBelow 30 = .ok (.aload_n 0, 1) := by decide +kernel
theorem dX1_nearestBelow_31 : decode cX1_nearestBelow 31 = .ok (.getfield 36, 3) := by decide +kernel
theorem dX1_nearestBelow_34 : decode cX1_nearestBelow 34 = .ok (.iload_n 3, 1) := by decide +kernel
theorem dX1_nearestBelow_35 : decode cX1_nearestBelow 35 = .ok (.iaload, 1) := by decide +kernel
theorem dX1_nearestBelow_36 : decode cX1_nearestBelow 36 = .ok (.aload_n 0, 1) := by decide +kernel
theorem dX1_nearestBelow_37 : decode cX1_nearestBelow 37 = .ok (.getfield 36, 3) := by decide +kernel
theorem dX1_nearestBelow_40 : decode cX1_nearestBelow 40 = .ok (.iload_n 2, 1) := by decide +kernel
theorem dX1_nearestBelow_41 : decode cX1_nearestBelow 41 = .ok (.iaload, 1) := by decide +kernel
theorem dX1_nearestBelow_42 : decode cX1_nearestBelow 42 = .ok (.if_icmp .le 5, 3) := by decide +kernel
theorem dX1_nearestBelow_45 : decode cX1_nearestBelow 45 = .ok (.iload_n 3, 1) := by decide +kernel
theorem dX1_nearestBelow_46 : decode cX1_nearestBelow 46 = .ok (.istore_n 2, 1) := by decide +kernel
theorem dX1_nearestBelow_47 : decode cX1_nearestBelow 47 = .ok (.iinc 3 1, 3) := by decide +kernel
theorem dX1_nearestBelow_50 : decode cX1_nearestBelow 50 = .ok (.goto (-46), 3) := by decide +kernel
theorem dX1_nearestBelow_53 : decode cX1_nearestBelow 53 = .ok (.iload_n 2, 1) := by decide +kernel
theorem dX1_nearestBelow_54 : decode cX1_nearestBelow 54 = .ok (.ireturn, 1) := by decide +kernel
theorem dX1_nearestAbove_0 : decode cX1_nearestAbove 0 = .ok (.iconst (-1), 1) := by decide +kernel
theorem dX1_nearestAbove_1 : decode cX1_nearestAbove 1 = .ok (.istore_n 2, 1) := by decide +kernel
theorem dX1_nearestAbove_2 : decode cX1_nearestAbove 2 = .ok (.iconst 0, 1) := by decide +kernel
theorem dX1_nearestAbove_3 : decode cX1_nearestAbove 3 = .ok (.istore_n 3, 1) := by decide +kernel
theorem dX1_nearestAbove_4 : decode cX1_nearestAbove 4 = .ok (.iload_n 3, 1) := by decide +kernel
theorem dX1_nearestAbove_5 : decode cX1_nearestAbove 5 = .ok (.aload_n 0, 1) := by decide +kernel
theorem dX1_nearestAbove_6 : decode cX1_nearestAbove 6 = .ok (.getfield 9, 3) := by decide +kernel
theorem dX1_nearestAbove_9 : decode cX1_nearestAbove 9 = .ok (.getfield 49, 3) := by decide +kernel
theorem dX1_nearestAbove_12 : decode cX1_nearestAbove 12 = .ok (.if_icmp .ge 41, 3) := by decide +kernel
theorem dX1_nearestAbove_15 : decode cX1_nearestAbove 15 = .ok (.aload_n 0, 1) := by decide +kernel
theorem dX1_nearestAbove_16 : decode cX1_nearestAbove 16 = .ok (.getfield 36, 3) := by decide +kernel
theorem dX1_nearestAbove_19 : decode cX1_nearestAbove 19 = .ok (.iload_n 3, 1) := by decide +kernel
theorem dX1_nearestAbove_20 : decode cX1_nearestAbove 20 = .ok (.iaload, 1) := by decide +kernel
theorem dX1_nearestAbove_21 : decode cX1_nearestAbove 21 = .ok (.iload_n 1, 1) := by decide +kernel
theorem dX1_nearestAbove_22 : decode cX1_nearestAbove 22 = .ok (.if_icmp .le 25, 3) := by decide +kernel
theorem dX1_nearestAbove_25 : decode cX1_nearestAbove 25 = .ok (.iload_n 2, 1) := by decide +kernel
theorem dX1_nearestAbove_26 : decode cX1_nearestAbove 26 = .ok (.iconst (-1), 1) := by decide +kernel
theorem dX1_nearestAbove_27 : decode cX1_nearestAbove 27 = .ok (.if_icmp .eq 18, 3) := by decide +kernel
theorem dX1_nearestAbove_30 : decode cX1_nearestAbove 30 = .ok (.aload_n 0, 1) := by decide +kernel
theorem dX1_nearestAbove_31 : decode cX1_nearestAbove 31 = .ok (.getfield 36, 3) := by decide +kernel
theorem dX1_nearestAbove_34 : decode cX1_nearestAbove 34 = .ok (.iload_n 3, 1) := by decide +kernel
theorem dX1_nearestAbove_35 : decode cX1_nearestAbove 35 = .ok (.iaload, 1) := by decide +kernel
theorem dX1_nearestAbove_36 : decode cX1_nearestAbove 36 = .ok (.aload_n 0, 1) := by decide +kernel
theorem dX1_nearestAbove_37 : decode cX1_nearestAbove 37 = .ok (.getfield 36, 3) := by decide +kernel
theorem dX1_nearestAbove_40 : decode cX1_nearestAbove 40 = .ok (.iload_n 2, 1) := by decide +kernel
theorem dX1_nearestAbove_41 : decode cX1_nearestAbove 41 = .ok (.iaload, 1) := by decide +kernel
theorem dX1_nearestAbove_42 : decode cX1_nearestAbove 42 = .ok (.if_icmp .ge 5, 3) := by decide +kernel
theorem dX1_nearestAbove_45 : decode cX1_nearestAbove 45 = .ok (.iload_n 3, 1) := by decide +kernel
theorem dX1_nearestAbove_46 : decode cX1_nearestAbove 46 = .ok (.istore_n 2, 1) := by decide +kernel
theorem dX1_nearestAbove_47 : decode cX1_nearestAbove 47 = .ok (.iinc 3 1, 3) := by decide +kernel
theorem dX1_nearestAbove_50 : decode cX1_nearestAbove 50 = .ok (.goto (-46), 3) := by decide +kernel
theorem dX1_nearestAbove_53 : decode cX1_nearestAbove 53 = .ok (.iload_n 2, 1) := by decide +kernel
theorem dX1_nearestAbove_54 : decode cX1_nearestAbove 54 = .ok (.ireturn, 1) := by decide +kernel
theorem dX2_init_0 : decode cX2_init 0 = .ok (.aload_n 0, 1) := by decide +kernel
theorem dX2_init_1 : decode cX2_init 1 = .ok (.aload_n 1, 1) := by decide +kernel
theorem dX2_init_2 : decode cX2_init 2 = .ok (.invokespecial 3, 3) := by decide +kernel
theorem dX2_init_5 : decode cX2_init 5 = .ok (.aload_n 0, 1) := by decide +kernel
theorem dX2_init_6 : decode cX2_init 6 = .ok (.iconst 3, 1) := by decide +kernel
theorem dX2_init_7 : decode cX2_init 7 = .ok (.putfield 9, 3) := by decide +kernel
theorem dX2_init_10 : decode cX2_init 10 = .ok (.aload_n 0, 1) := by decide +kernel
theorem dX2_init_11 : decode cX2_init 11 = .ok (.new 15, 3) := by decide +kernel
theorem dX2_init_14 : decode cX2_init 14 = .ok (.dup, 1) := by decide +kernel
theorem dX2_init_15 : decode cX2_init 15 = .ok (.aload_n 1, 1) := by decide +kernel
theorem dX2_init_16 : decode cX2_init 16 = .ok (.invokespecial 17, 3) := by decide +kernel
theorem dX2_init_19 : decode cX2_init 19 = .ok (.putfield 18, 3) := by decide +kernel
theorem dX2_init_22 : decode cX2_init 22 = .ok (.aload_n 0, 1) := by decide +kernel
theorem dX2_init_23 : decode cX2_init 23 = .ok (.new 22, 3) := by decide +kernel
theorem dX2_init_26 : decode cX2_init 26 = .ok (.dup, 1) := by decide +kernel
theorem dX2_init_27 : decode cX2_init 27 = .ok (.aload_n 1, 1) := by decide +kernel
theorem dX2_init_28 : decode cX2_init 28 = .ok (.iconst 1, 1) := by decide +kernel
theorem dX2_init_29 : decode cX2_init 29 = .ok (.invokespecial 24, 3) := by decide +kernel
theorem dX2_init_32 : decode cX2_init 32 = .ok (.putfield 27, 3) := by decide +kernel
theorem dX2_init_35 : decode cX2_init 35 = .ok (.return_, 1) := by decide +kernel
theorem dX2_standAtStart_0 : decode cX2_standAtStart 0 = .ok (.aload_n 0, 1) := by decide +kernel
theorem dX2_standAtStart_1 : decode cX2_standAtStart 1 = .ok (.invokespecial 31, 3) := by decide +kernel
theorem dX2_standAtStart_4 : decode cX2_standAtStart 4 = .ok (.aload_n 0, 1) := by decide +kernel
theorem dX2_standAtStart_5 : decode cX2_standAtStart 5 = .ok (.getfield 18, 3) := by decide +kernel
theorem dX2_standAtStart_8 : decode cX2_standAtStart 8 = .ok (.invokevirtual 35, 3) := by decide +kernel
theorem dX2_standAtStart_11 : decode cX2_standAtStart 11 = .ok (.aload_n 0, 1) := by decide +kernel
theorem dX2_standAtStart_12 : decode cX2_standAtStart 12 = .ok (.getfield 27, 3) := by decide +kernel
theorem dX2_standAtStart_15 : decode cX2_standAtStart 15 = .ok (.invokevirtual 36, 3) := by decide +kernel
theorem dX2_standAtStart_18 : decode cX2_standAtStart 18 = .ok (.aload_n 0, 1) := by decide +kernel
theorem dX2_standAtStart_19 : decode cX2_standAtStart 19 = .ok (.iconst 3, 1) := by decide +kernel
theorem dX2_standAtStart_20 : decode cX2_standAtStart 20 = .ok (.putfield 9, 3) := by decide +kernel
theorem dX2_standAtStart_23 : decode cX2_standAtStart 23 = .ok (.return_, 1) := by decide +kernel
theorem dX2_meet_0 : decode cX2_meet 0 = .ok (.aload_n 0, 1) := by decide +kernel
theorem dX2_meet_1 : decode cX2_meet 1 = .ok (.getfield 18, 3) := by decide +kernel
theorem dX2_meet_4 : decode cX2_meet 4 = .ok (.iload_n 1, 1) := by decide +kernel
theorem dX2_meet_5 : decode cX2_meet 5 = .ok (.iload_n 2, 1) := by decide +kernel
theorem dX2_meet_6 : decode cX2_meet 6 = .ok (.invokevirtual 37, 3) := by decide +kernel
theorem dX2_meet_9 : decode cX2_meet 9 = .ok (.aload_n 0, 1) := by decide +kernel
theorem dX2_meet_10 : decode cX2_meet 10 = .ok (.getfield 27, 3) := by decide +kernel
theorem dX2_meet_13 : decode cX2_meet 13 = .ok (.iload_n 1, 1) := by decide +kernel
theorem dX2_meet_14 : decode cX2_meet 14 = .ok (.iload_n 2, 1) := by decide +kernel
theorem dX2_meet_15 : decode cX2_meet 15 = .ok (.invokevirtual 41, 3) := by decide +kernel
theorem dX2_meet_18 : decode cX2_meet 18 = .ok (.aload_n 0, 1) := by decide +kernel
theorem dX2_meet_19 : decode cX2_meet 19 = .ok (.getfield 9, 3) := by decide +kernel
theorem dX2_meet_22 : decode cX2_meet 22 = .ok (.iconst 3, 1) := by decide +kernel
theorem dX2_meet_23 : decode cX2_meet 23 = .ok (.if_icmp .ne 30, 3) := by decide +kernel
theorem dX2_meet_26 : decode cX2_meet 26 = .ok (.aload_n 0, 1) := by decide +kernel
theorem dX2_meet_27 : decode cX2_meet 27 = .ok (.aload_n 0, 1) := by decide +kernel
theorem dX2_meet_28 : decode cX2_meet 28 = .ok (.aload_n 0, 1) := by decide +kernel
theorem dX2_meet_29 : decode cX2_meet 29 = .ok (.getfield 27, 3) := by decide +kernel
theorem dX2_meet_32 : decode cX2_meet 32 = .ok (.aload_n 0, 1) := by decide +kernel
theorem dX2_meet_33 : decode cX2_meet 33 = .ok (.getfield 18, 3) := by decide +kernel
theorem dX2_meet_36 : decode cX2_meet 36 = .ok (.invokevirtual 42, 3) := by decide +kernel
theorem dX2_meet_39 : decode cX2_meet 39 = .ok (.ifCond .eq 7, 3) := by decide +kernel
theorem dX2_meet_42 : decode cX2_meet 42 = .ok (.iconst 1, 1) := by decide +kernel
theorem dX2_meet_43 : decode cX2_meet 43 = .ok (.goto 4, 3) := by decide +kernel
theorem dX2_meet_46 : decode cX2_meet 46 = .ok (.iconst 3, 1) := by decide +kernel
theorem dX2_meet_47 : decode cX2_meet 47 = .ok (.putfield 9, 3) := by decide +kernel
theorem dX2_meet_50 : decode cX2_meet 50 = .ok (.goto 27, 3) := by decide +kernel
theorem dX2_meet_53 : decode cX2_meet 53 = .ok (.aload_n 0, 1) := by decide +kernel
theorem dX2_meet_54 : decode cX2_meet 54 = .ok (.aload_n 0, 1) := by decide +kernel
theorem dX2_meet_55 : decode cX2_meet 55 = .ok (.aload_n 0, 1) := by decide +kernel
theorem dX2_meet_56 : decode cX2_meet 56 = .ok (.getfield 18, 3) := by decide +kernel
theorem dX2_meet_59 : decode cX2_meet 59 = .ok (.aload_n 0, 1) := by decide +kernel
theorem dX2_meet_60 : decode cX2_meet 60 = .ok (.getfield 27, 3) := by decide +kernel
theorem dX2_meet_63 : decode cX2_meet 63 = .ok (.invokevirtual 42, 3) := by decide +kernel
theorem dX2_meet_66 : decode cX2_meet 66 = .ok (.ifCond .eq 7, 3) := by decide +kernel
theorem dX2_meet_69 : decode cX2_meet 69 = .ok (.iconst 3, 1) := by decide +kernel
theorem dX2_meet_70 : decode cX2_meet 70 = .ok (.goto 4, 3) := by decide +kernel
theorem dX2_meet_73 : decode cX2_meet 73 = .ok (.iconst 1, 1) := by decide +kernel
theorem dX2_meet_74 : decode cX2_meet 74 = .ok (.putfield 9, 3) := by decide +kernel
theorem dX2_meet_77 : decode cX2_meet 77 = .ok (.aload_n 0, 1) := by decide +kernel
theorem dX2_meet_78 : decode cX2_meet 78 = .ok (.getfield 9, 3) := by decide +kernel
theorem dX2_meet_81 : decode cX2_meet 81 = .ok (.iconst 3, 1) := by decide +kernel
theorem dX2_meet_82 : decode cX2_meet 82 = .ok (.if_icmp .ne 14, 3) := by decide +kernel
theorem dX2_meet_85 : decode cX2_meet 85 = .ok (.aload_n 0, 1) := by decide +kernel
theorem dX2_meet_86 : decode cX2_meet 86 = .ok (.aload_n 0, 1) := by decide +kernel
theorem dX2_meet_87 : decode cX2_meet 87 = .ok (.getfield 27, 3) := by decide +kernel
theorem dX2_meet_90 : decode cX2_meet 90 = .ok (.invokevirtual 46, 3) := by decide +kernel
theorem dX2_meet_93 : decode cX2_meet 93 = .ok (.goto 11, 3) := by decide +kernel
theorem dX2_meet_96 : decode cX2_meet 96 = .ok (.aload_n 0, 1) := by decide +kernel
theorem dX2_meet_97 : decode cX2_meet 97 = .ok (.aload_n 0, 1) := by decide +kernel
theorem dX2_meet_98 : decode cX2_meet 98 = .ok (.getfield 18, 3) := by decide +kernel
theorem dX2_meet_101 : decode cX2_meet 101 = .ok (.invokevirtual 46, 3) := by decide +kernel
theorem dX2_meet_104 : decode cX2_meet 104 = .ok (.return_, 1) := by decide +kernel
theorem dX2_isTooDear_0 : decode cX2_isTooDear 0 = .ok (.aload_n 1, 1) := by decide +kernel
theorem dX2_isTooDear_1 : decode cX2_isTooDear 1 = .ok (.getfield 50, 3) := by decide +kernel
theorem dX2_isTooDear_4 : decode cX2_isTooDear 4 = .ok (.aload_n 0, 1) := by decide +kernel
theorem dX2_isTooDear_5 : decode cX2_isTooDear 5 = .ok (.getfield 53, 3) := by decide +kernel
theorem dX2_isTooDear_8 : decode cX2_isTooDear 8 = .ok (.getfield 57, 3) := by decide +kernel
theorem dX2_isTooDear_11 : decode cX2_isTooDear 11 = .ok (.aload_n 2, 1) := by decide +kernel
theorem dX2_isTooDear_12 : decode cX2_isTooDear 12 = .ok (.getfield 50, 3) := by decide +kernel
theorem dX2_isTooDear_15 : decode cX2_isTooDear 15 = .ok (.imul, 1) := by decide +kernel
theorem dX2_isTooDear_16 : decode cX2_isTooDear 16 = .ok (.if_icmp .le 7, 3) := by decide +kernel
theorem dX2_isTooDear_19 : decode cX2_isTooDear 19 = .ok (.iconst 1, 1) := by decide +kernel
theorem dX2_isTooDear_20 : decode cX2_isTooDear 20 = .ok (.goto 4, 3) := by decide +kernel
theorem dX2_isTooDear_23 : decode cX2_isTooDear 23 = .ok (.iconst 0, 1) := by decide +kernel
theorem dX2_isTooDear_24 : decode cX2_isTooDear 24 = .ok (.ireturn, 1) := by decide +kernel
theorem dX2_standAs_0 : decode cX2_standAs 0 = .ok (.aload_n 0, 1) := by decide +kernel
theorem dX2_standAs_1 : decode cX2_standAs 1 = .ok (.dup, 1) := by decide +kernel
theorem dX2_standAs_2 : decode cX2_standAs 2 = .ok (.getfield 62, 3) := by decide +kernel
theorem dX2_standAs_5 : decode cX2_standAs 5 = .ok (.aload_n 0, 1) := by decide +kernel
theorem dX2_standAs_6 : decode cX2_standAs 6 = .ok (.getfield 53, 3) := by decide +kernel
theorem dX2_standAs_9 : decode cX2_standAs 9 = .ok (.aload_n 0, 1) := by decide +kernel
theorem dX2_standAs_10 : decode cX2_standAs 10 = .ok (.getfield 63, 3) := by decide +kernel
theorem dX2_standAs_13 : decode cX2_standAs 13 = .ok (.aload_n 1, 1) := by decide +kernel
theorem dX2_standAs_14 : decode cX2_standAs 14 = .ok (.getfield 67, 3) := by decide +kernel
theorem dX2_standAs_17 : decode cX2_standAs 17 = .ok (.invokevirtual 68, 3) := by decide +kernel
theorem dX2_standAs_20 : decode cX2_standAs 20 = .ok (.iadd, 1) := by decide +kernel
theorem dX2_standAs_21 : decode cX2_standAs 21 = .ok (.putfield 62, 3) := by decide +kernel
theorem dX2_standAs_24 : decode cX2_standAs 24 = .ok (.iconst 0, 1) := by decide +kernel
theorem dX2_standAs_25 : decode cX2_standAs 25 = .ok (.istore_n 2, 1) := by decide +kernel
theorem dX2_standAs_26 : decode cX2_standAs 26 = .ok (.iload_n 2, 1) := by decide +kernel
theorem dX2_standAs_27 : decode cX2_standAs 27 = .ok (.aload_n 0, 1) := by decide +kernel
theorem dX2_standAs_28 : decode cX2_standAs 28 = .ok (.getfield 53, 3) := by decide +kernel
theorem dX2_standAs_31 : decode cX2_standAs 31 = .ok (.getfield 72, 3) := by decide +kernel
theorem dX2_standAs_34 : decode cX2_standAs 34 = .ok (.if_icmp .ge 21, 3) := by decide +kernel
theorem dX2_standAs_37 : decode cX2_standAs 37 = .ok (.aload_n 0, 1) := by decide +kernel
theorem dX2_standAs_38 : decode cX2_standAs 38 = .ok (.getfield 63, 3) := by decide +kernel
theorem dX2_standAs_41 : decode cX2_standAs 41 = .ok (.iload_n 2, 1) := by decide +kernel
theorem dX2_standAs_42 : decode cX2_standAs 42 = .ok (.aload_n 1, 1) := by decide +kernel
theorem dX2_standAs_43 : decode cX2_standAs 43 = .ok (.getfield 67, 3) := by decide +kernel
theorem dX2_standAs_46 : decode cX2_standAs 46 = .ok (.iload_n 2, 1) := by decide +kernel
theorem dX2_standAs_47 : decode cX2_standAs 47 = .ok (.iaload, 1) := by decide +kernel
theorem dX2_standAs_48 : decode cX2_standAs 48 = .ok (.iastore, 1) := by decide +kernel
theorem dX2_standAs_49 : decode cX2_standAs 49 = .ok (.iinc 2 1, 3) := by decide +kernel
theorem dX2_standAs_52 : decode cX2_standAs 52 = .ok (.goto (-26), 3) := by decide +kernel
theorem dX2_standAs_55 : decode cX2_standAs 55 = .ok (.return_, 1) := by decide +kernel
theorem dX3_init_0 : decode cX3_init 0 = .ok (.aload_n 0, 1) := by decide +kernel
theorem dX3_init_1 : decode cX3_init 1 = .ok (.invokespecial 3, 3) := by decide +kernel
theorem dX3_init_4 : decode cX3_init 4 = .ok (.aload_n 0, 1) := by decide +kernel
theorem dX3_init_5 : decode cX3_init 5 = .ok (.iconst 1, 1) := by decide +kernel
theorem dX3_init_6 : decode cX3_init 6 = .ok (.putfield 9, 3) := by decide +kernel
theorem dX3_init_9 : decode cX3_init 9 = .ok (.aload_n 0, 1) := by decide +kernel
theorem dX3_init_10 : decode cX3_init 10 = .ok (.iconst 1, 1) := by decide +kernel
theorem dX3_init_11 : decode cX3_init 11 = .ok (.putfield 15, 3) := by decide +kernel
theorem dX3_init_14 : decode cX3_init 14 = .ok (.aload_n 0, 1) := by decide +kernel
theorem dX3_init_15 : decode cX3_init 15 = .ok (.iconst 2, 1) := by decide +kernel
theorem dX3_init_16 : decode cX3_init 16 = .ok (.putfield 18, 3) := by decide +kernel
theorem dX3_init_19 : decode cX3_init 19 = .ok (.aload_n 0, 1) := by decide +kernel
theorem dX3_init_20 : decode cX3_init 20 = .ok (.bipush 6, 2) := by decide +kernel
theorem dX3_init_22 : decode cX3_init 22 = .ok (.newarray .int, 2) := by decide +kernel
theorem dX3_init_24 : decode cX3_init 24 = .ok (.putfield 21, 3) := by decide +kernel
theorem dX3_init_27 : decode cX3_init 27 = .ok (.aload_n 0, 1) := by decide +kernel
theorem dX3_init_28 : decode cX3_init 28 = .ok (.iconst 3, 1) := by decide +kernel
theorem dX3_init_29 : decode cX3_init 29 = .ok (.newarray .int, 2) := by decide +kernel
theorem dX3_init_31 : decode cX3_init 31 = .ok (.putfield 25, 3) := by decide +kernel
theorem dX3_init_34 : decode cX3_init 34 = .ok (.aload_n 0, 1) := by decide +kernel
theorem dX3_init_35 : decode cX3_init 35 = .ok (.sipush 216, 3) := by decide +kernel
theorem dX3_init_38 : decode cX3_init 38 = .ok (.newarray .int, 2) := by decide +kernel
theorem dX3_init_40 : decode cX3_init 40 = .ok (.putfield 28, 3) := by decide +kernel
theorem dX3_init_43 : decode cX3_init 43 = .ok (.aload_n 0, 1) := by decide +kernel
theorem dX3_init_44 : decode cX3_init 44 = .ok (.bipush 56, 2) := by decide +kernel
theorem dX3_init_46 : decode cX3_init 46 = .ok (.newarray .int, 2) := by decide +kernel
theorem dX3_init_48 : decode cX3_init 48 = .ok (.putfield 31, 3) := by decide +kernel
theorem dX3_init_51 : decode cX3_init 51 = .ok (.aload_n 0, 1) := by decide +kernel
theorem dX3_init_52 : decode cX3_init 52 = .ok (.invokevirtual 34, 3) := by decide +kernel
theorem dX3_init_55 : decode cX3_init 55 = .ok (.aload_n 0, 1) := by decide +kernel
theorem dX3_init_56 : decode cX3_init 56 = .ok (.invokevirtual 37, 3) := by decide +kernel
theorem dX3_init_59 : decode cX3_init 59 = .ok (.return_, 1) := by decide +kernel
theorem dX3_resizePoints_0 : decode cX3_resizePoints 0 = .ok (.aload_n 0, 1) := by decide +kernel
theorem dX3_resizePoints_1 : decode cX3_resizePoints 1 = .ok (.iload_n 1, 1) := by decide +kernel
theorem dX3_resizePoints_2 : decode cX3_resizePoints 2 = .ok (.putfield 9, 3) := by decide +kernel
theorem dX3_resizePoints_5 : decode cX3_resizePoints 5 = .ok (.iload_n 1, 1) := by decide +kernel
theorem dX3_resizePoints_6 : decode cX3_resizePoints 6 = .ok (.istore_n 2, 1) := by decide +kernel
theorem dX3_resizePoints_7 : decode cX3_resizePoints 7 = .ok (.iload_n 2, 1) := by decide +kernel
theorem dX3_resizePoints_8 : decode cX3_resizePoints 8 = .ok (.bipush 6, 2) := by decide +kernel
theorem dX3_resizePoints_10 : decode cX3_resizePoints 10 = .ok (.if_icmp .ge 16, 3) := by decide +kernel
theorem dX3_resizePoints_13 : decode cX3_resizePoints 13 = .ok (.aload_n 0, 1) := by decide +kernel
theorem dX3_resizePoints_14 : decode cX3_resizePoints 14 = .ok (.getfield 21, 3) := by decide +kernel
theorem dX3_resizePoints_17 : decode cX3_resizePoints 17 = .ok (.iload_n 2, 1) := by decide +kernel
theorem dX3_resizePoints_18 : decode cX3_resizePoints 18 = .ok (.iconst 0, 1) := by decide +kernel
theorem dX3_resizePoints_19 : decode cX3_resizePoints 19 = .ok (.iastore, 1) := by decide +kernel
theorem dX3_resizePoints_20 : decode cX3_resizePoints 20 = .ok (.iinc 2 1, 3) := by decide +kernel
theorem dX3_resizePoints_23 : decode cX3_resizePoints 23 = .ok (.goto (-16), 3) := by decide +kernel
theorem dX3_resizePoints_26 : decode cX3_resizePoints 26 = .ok (.iconst 0, 1) := by decide +kernel
theorem dX3_resizePoints_27 : decode cX3_resizePoints 27 = .ok (.istore_n 2, 1) := by decide +kernel
theorem dX3_resizePoints_28 : decode cX3_resizePoints 28 = .ok (.iload_n 2, 1) := by decide +kernel
theorem dX3_resizePoints_29 : decode cX3_resizePoints 29 = .ok (.iconst 3, 1) := by decide +kernel
theorem dX3_resizePoints_30 : decode cX3_resizePoints 30 = .ok (.if_icmp .ge 26, 3) := by decide +kernel
theorem dX3_resizePoints_33 : decode cX3_resizePoints 33 = .ok (.aload_n 0, 1) := by decide +kernel
theorem dX3_resizePoints_34 : decode cX3_resizePoints 34 = .ok (.getfield 25, 3) := by decide +kernel
theorem dX3_resizePoints_37 : decode cX3_resizePoints 37 = .ok (.iload_n 2, 1) := by decide +kernel
theorem dX3_resizePoints_38 : decode cX3_resizePoints 38 = .ok (.iaload, 1) := by decide +kernel
theorem dX3_resizePoints_39 : decode cX3_resizePoints 39 = .ok (.iload_n 1, 1) := by decide +kernel
theorem dX3_resizePoints_40 : decode cX3_resizePoints 40 = .ok (.if_icmp .lt 10, 3) := by decide +kernel
theorem dX3_resizePoints_43 : decode cX3_resizePoints 43 = .ok (.aload_n 0, 1) := by decide +kernel
theorem dX3_resizePoints_44 : decode cX3_resizePoints 44 = .ok (.getfield 25, 3) := by decide +kernel
theorem dX3_resizePoints_47 : decode cX3_resizePoints 47 = .ok (.iload_n 2, 1) := by decide +kernel
theorem dX3_resizePoints_48 : decode cX3_resizePoints 48 = .ok (.iconst 0, 1) := by decide +kernel
theorem dX3_resizePoints_49 : decode cX3_resizePoints 49 = .ok (.iastore, 1) := by decide +kernel
theorem dX3_resizePoints_50 : decode cX3_resizePoints 50 = .ok (.iinc 2 1, 3) := by decide +kernel
theorem dX3_resizePoints_53 : decode cX3_resizePoints 53 = .ok (.goto (-25), 3) := by decide +kernel
theorem dX3_resizePoints_56 : decode cX3_resizePoints 56 = .ok (.aload_n 0, 1) := by decide +kernel
theorem dX3_resizePoints_57 : decode cX3_resizePoints 57 = .ok (.invokevirtual 37, 3) := by decide +kernel
theorem dX3_resizePoints_60 : decode cX3_resizePoints 60 = .ok (.return_, 1) := by decide +kernel
theorem dX3_resizeServers_0 : decode cX3_resizeServers 0 = .ok (.aload_n 0, 1) := by decide +kernel
theorem dX3_resizeServers_1 : decode cX3_resizeServers 1 = .ok (.iload_n 1, 1) := by decide +kernel
theorem dX3_resizeServers_2 : decode cX3_resizeServers 2 = .ok (.putfield 15, 3) := by decide +kernel
theorem dX3_resizeServers_5 : decode cX3_resizeServers 5 = .ok (.iload_n 1, 1) := by decide +kernel
theorem dX3_resizeServers_6 : decode cX3_resizeServers 6 = .ok (.istore_n 2, 1) := by decide +kernel
theorem dX3_resizeServers_7 : decode cX3_resizeServers 7 = .ok (.iload_n 2, 1) := by decide +kernel
theorem dX3_resizeServers_8 : decode cX3_resizeServers 8 = .ok (.iconst 3, 1) := by decide +kernel
theorem dX3_resizeServers_9 : decode cX3_resizeServers 9 = .ok (.if_icmp .ge 16, 3) := by decide +kernel
theorem dX3_resizeServers_12 : decode cX3_resizeServers 12 = .ok (.aload_n 0, 1) := by decide +kernel
theorem dX3_resizeServers_13 : decode cX3_resizeServers 13 = .ok (.getfield 25, 3) := by decide +kernel
theorem dX3_resizeServers_16 : decode cX3_resizeServers 16 = .ok (.iload_n 2, 1) := by decide +kernel
theorem dX3_resizeServers_17 : decode cX3_resizeServers 17 = .ok (.iconst 0, 1) := by decide +kernel
theorem dX3_resizeServers_18 : decode cX3_resizeServers 18 = .ok (.iastore, 1) := by decide +kernel
theorem dX3_resizeServers_19 : decode cX3_resizeServers 19 = .ok (.iinc 2 1, 3) := by decide +kernel
theorem dX3_resizeServers_22 : decode cX3_resizeServers 22 = .ok (.goto (-15), 3) := by decide +kernel
theorem dX3_resizeServers_25 : decode cX3_resizeServers 25 = .ok (.aload_n 0, 1) := by decide +kernel
theorem dX3_resizeServers_26 : decode cX3_resizeServers 26 = .ok (.invokevirtual 37, 3) := by decide +kernel
theorem dX3_resizeServers_29 : decode cX3_resizeServers 29 = .ok (.return_, 1) := by decide +kernel
theorem dX3_numberCrowds_0 : decode cX3_numberCrowds 0 = .ok (.iconst 0, 1) := by decide +kernel
theorem dX3_numberCrowds_1 : decode cX3_numberCrowds 1 = .ok (.istore_n 1, 1) := by decide +kernel
theorem dX3_numberCrowds_2 : decode cX3_numberCrowds 2 = .ok (.iconst 0, 1) := by decide +kernel
theorem dX3_numberCrowds_3 : decode cX3_numberCrowds 3 = .ok (.istore_n 2, 1) := by decide +kernel
theorem dX3_numberCrowds_4 : decode cX3_numberCrowds 4 = .ok (.iload_n 2, 1) := by decide +kernel
theorem dX3_numberCrowds_5 : decode cX3_numberCrowds 5 = .ok (.bipush 6, 2) := by decide +kernel
theorem dX3_numberCrowds_7 : decode cX3_numberCrowds 7 = .ok (.if_icmp .ge 120, 3) := by decide +kernel
theorem dX3_numberCrowds_10 : decode cX3_numberCrowds 10 = .ok (.iload_n 2, 1) := by decide +kernel
theorem dX3_numberCrowds_11 : decode cX3_numberCrowds 11 = .ok (.istore_n 3, 1) := by decide +kernel
theorem dX3_numberCrowds_12 : decode cX3_numberCrowds 12 = .ok (.iload_n 3, 1) := by decide +kernel
theorem dX3_numberCrowds_13 : decode cX3_numberCrowds 13 = .ok (.bipush 6, 2) := by decide +kernel
theorem dX3_numberCrowds_15 : decode cX3_numberCrowds 15 = .ok (.if_icmp .ge 106, 3) := by decide +kernel
theorem dX3_numberCrowds_18 : decode cX3_numberCrowds 18 = .ok (.iload_n 3, 1) := by decide +kernel
theorem dX3_numberCrowds_19 : decode cX3_numberCrowds 19 = .ok (.istore 4, 2) := by decide +kernel
theorem dX3_numberCrowds_21 : decode cX3_numberCrowds 21 = .ok (.iload 4, 2) := by decide +kernel
theorem dX3_numberCrowds_23 : decode cX3_numberCrowds 23 = .ok (.bipush 6, 2) := by decide +kernel
theorem dX3_numberCrowds_25 : decode cX3_numberCrowds 25 = .ok (.if_icmp .ge 90, 3) := by decide +kernel
theorem dX3_numberCrowds_28 : decode cX3_numberCrowds 28 = .ok (.aload_n 0, 1) := by decide +kernel
theorem dX3_numberCrowds_29 : decode cX3_numberCrowds 29 = .ok (.getfield 28, 3) := by decide +kernel
theorem dX3_numberCrowds_32 : decode cX3_numberCrowds 32 = .ok (.iload 4, 2) := by decide +kernel
theorem dX3_numberCrowds_34 : decode cX3_numberCrowds 34 = .ok (.iload_n 3, 1) := by decide +kernel
theorem dX3_numberCrowds_35 : decode cX3_numberCrowds 35 = .ok (.iload_n 2, 1) := by decide +kernel
theorem dX3_numberCrowds_36 : decode cX3_numberCrowds 36 = .ok (.invokestatic 40, 3) := by decide +kernel
theorem dX3_numberCrowds_39 : decode cX3_numberCrowds 39 = .ok (.iload_n 1, 1) := by decide +kernel
theorem dX3_numberCrowds_40 : decode cX3_numberCrowds 40 = .ok (.iastore, 1) := by decide +kernel
theorem dX3_numberCrowds_41 : decode cX3_numberCrowds 41 = .ok (.aload_n 0, 1) := by decide +kernel
theorem dX3_numberCrowds_42 : decode cX3_numberCrowds 42 = .ok (.getfield 28, 3) := by decide +kernel
theorem dX3_numberCrowds_45 : decode cX3_numberCrowds 45 = .ok (.iload 4, 2) := by decide +kernel
theorem dX3_numberCrowds_47 : decode cX3_numberCrowds 47 = .ok (.iload_n 2, 1) := by decide +kernel
theorem dX3_numberCrowds_48 : decode cX3_numberCrowds 48 = .ok (.iload_n 3, 1) := by decide +kernel
theorem dX3_numberCrowds_49 : decode cX3_numberCrowds 49 = .ok (.invokestatic 40, 3) := by decide +kernel
theorem dX3_numberCrowds_52 : decode cX3_numberCrowds 52 = .ok (.iload_n 1, 1) := by decide +kernel
theorem dX3_numberCrowds_53 : decode cX3_numberCrowds 53 = .ok (.iastore, 1) := by decide +kernel
theorem dX3_numberCrowds_54 : decode cX3_numberCrowds 54 = .ok (.aload_n 0, 1) := by decide +kernel
theorem dX3_numberCrowds_55 : decode cX3_numberCrowds 55 = .ok (.getfield 28, 3) := by decide +kernel
theorem dX3_numberCrowds_58 : decode cX3_numberCrowds 58 = .ok (.iload_n 3, 1) := by decide +kernel
theorem dX3_numberCrowds_59 : decode cX3_numberCrowds 59 = .ok (.iload 4, 2) := by decide +kernel
theorem dX3_numberCrowds_61 : decode cX3_numberCrowds 61 = .ok (.iload_n 2, 1) := by decide +kernel
theorem dX3_numberCrowds_62 : decode cX3_numberCrowds 62 = .ok (.invokestatic 40, 3) := by decide +kernel
theorem dX3_numberCrowds_65 : decode cX3_numberCrowds 65 = .ok (.iload_n 1, 1) := by decide +kernel
theorem dX3_numberCrowds_66 : decode cX3_numberCrowds 66 = .ok (.iastore, 1) := by decide +kernel
theorem dX3_numberCrowds_67 : decode cX3_numberCrowds 67 = .ok (.aload_n 0, 1) := by decide +kernel
theorem dX3_numberCrowds_68 : decode cX3_numberCrowds 68 = .ok (.getfield 28, 3) := by decide +kernel
theorem dX3_numberCrowds_71 : decode cX3_numberCrowds 71 = .ok (.iload_n 3, 1) := by decide +kernel
theorem dX3_numberCrowds_72 : decode cX3_numberCrowds 72 = .ok (.iload_n 2, 1) := by decide +kernel
theorem dX3_numberCrowds_73 : decode cX3_numberCrowds 73 = .ok (.iload 4, 2) := by decide +kernel
theorem dX3_numberCrowds_75 : decode cX3_numberCrowds 75 = .ok (.invokestatic 40, 3) := by decide +kernel
theorem dX3_numberCrowds_78 : decode cX3_numberCrowds 78 = .ok (.iload_n 1, 1) := by decide +kernel
theorem dX3_numberCrowds_79 : decode cX3_numberCrowds 79 = .ok (.iastore, 1) := by decide +kernel
theorem dX3_numberCrowds_80 : decode cX3_numberCrowds 80 = .ok (.aload_n 0, 1) := by decide +kernel
theorem dX3_numberCrowds_81 : decode cX3_numberCrowds 81 = .ok (.getfield 28, 3) := by decide +kernel
theorem dX3_numberCrowds_84 : decode cX3_numberCrowds 84 = .ok (.iload_n 2, 1) := by decide +kernel
theorem dX3_numberCrowds_85 : decode cX3_numberCrowds 85 = .ok (.iload 4, 2) := by decide +kernel
theorem dX3_numberCrowds_87 : decode cX3_numberCrowds 87 = .ok (.iload_n 3, 1) := by decide +kernel
theorem dX3_numberCrowds_88 : decode cX3_numberCrowds 88 = .ok (.invokestatic 40, 3) := by decide +kernel
theorem dX3_numberCrowds_91 : decode cX3_numberCrowds 91 = .ok (.iload_n 1, 1) := by decide +kernel
theorem dX3_numberCrowds_92 : decode cX3_numberCrowds 92 = .ok (.iastore, 1) := by decide +kernel
theorem dX3_numberCrowds_93 : decode cX3_numberCrowds 93 = .ok (.aload_n 0, 1) := by decide +kernel
theorem dX3_numberCrowds_94 : decode cX3_numberCrowds 94 = .ok (.getfield 28, 3) := by decide +kernel
theorem dX3_numberCrowds_97 : decode cX3_numberCrowds 97 = .ok (.iload_n 2, 1) := by decide +kernel
theorem dX3_numberCrowds_98 : decode cX3_numberCrowds 98 = .ok (.iload_n 3, 1) := by decide +kernel
theorem dX3_numberCrowds_99 : decode cX3_numberCrowds 99 = .ok (.iload 4, 2) := by decide +kernel
theorem dX3_numberCrowds_101 : decode cX3_numberCrowds 101 = .ok (.invokestatic 40, 3) := by decide +kernel
theorem dX3_numberCrowds_104 : decode cX3_numberCrowds 104 = .ok (.iload_n 1, 1) := by decide +kernel
theorem dX3_numberCrowds_105 : decode cX3_numberCrowds 105 = .ok (.iastore, 1) := by decide +kernel
theorem dX3_numberCrowds_106 : decode cX3_numberCrowds 106 = .ok (.iinc 1 1, 3) := by decide +kernel
theorem dX3_numberCrowds_109 : decode cX3_numberCrowds 109 = .ok (.iinc 4 1, 3) := by decide +kernel
theorem dX3_numberCrowds_112 : decode cX3_numberCrowds 112 = .ok (.goto (-91), 3) := by decide +kernel
theorem dX3_numberCrowds_115 : decode cX3_numberCrowds 115 = .ok (.iinc 3 1, 3) := by decide +kernel
theorem dX3_numberCrowds_118 : decode cX3_numberCrowds 118 = .ok (.goto (-106), 3) := by decide +kernel
theorem dX3_numberCrowds_121 : decode cX3_numberCrowds 121 = .ok (.iinc 2 1, 3) := by decide +kernel
theorem dX3_numberCrowds_124 : decode cX3_numberCrowds 124 = .ok (.goto (-120), 3) := by decide +kernel
theorem dX3_numberCrowds_127 : decode cX3_numberCrowds 127 = .ok (.return_, 1) := by decide +kernel
theorem dX3_listCrowds_0 : decode cX3_listCrowds 0 = .ok (.iconst 0, 1) := by decide +kernel
theorem dX3_listCrowds_1 : decode cX3_listCrowds 1 = .ok (.istore_n 1, 1) := by decide +kernel
theorem dX3_listCrowds_2 : decode cX3_listCrowds 2 = .ok (.iconst 0, 1) := by decide +kernel
theorem dX3_listCrowds_3 : decode cX3_listCrowds 3 = .ok (.istore_n 2, 1) := by decide +kernel
theorem dX3_listCrowds_4 : decode cX3_listCrowds 4 = .ok (.iload_n 2, 1) := by decide +kernel
theorem dX3_listCrowds_5 : decode cX3_listCrowds 5 = .ok (.aload_n 0, 1) := by decide +kernel
theorem dX3_listCrowds_6 : decode cX3_listCrowds 6 = .ok (.iconst 2, 1) := by decide +kernel
theorem dX3_listCrowds_7 : decode cX3_listCrowds 7 = .ok (.invokevirtual 44, 3) := by decide +kernel
theorem dX3_listCrowds_10 : decode cX3_listCrowds 10 = .ok (.if_icmp .ge 61, 3) := by decide +kernel
theorem dX3_listCrowds_13 : decode cX3_listCrowds 13 = .ok (.iload_n 2, 1) := by decide +kernel
theorem dX3_listCrowds_14 : decode cX3_listCrowds 14 = .ok (.istore_n 3, 1) := by decide +kernel
theorem dX3_listCrowds_15 : decode cX3_listCrowds 15 = .ok (.iload_n 3, 1) := by decide +kernel
theorem dX3_listCrowds_16 : decode cX3_listCrowds 16 = .ok (.aload_n 0, 1) := by decide +kernel
theorem dX3_listCrowds_17 : decode cX3_listCrowds 17 = .ok (.iconst 1, 1) := by decide +kernel
theorem dX3_listCrowds_18 : decode cX3_listCrowds 18 = .ok (.invokevirtual 44, 3) := by decide +kernel
theorem dX3_listCrowds_21 : decode cX3_listCrowds 21 = .ok (.if_icmp .ge 44, 3) := by decide +kernel
theorem dX3_listCrowds_24 : decode cX3_listCrowds 24 = .ok (.iload_n 3, 1) := by decide +kernel
theorem dX3_listCrowds_25 : decode cX3_listCrowds 25 = .ok (.istore 4, 2) := by decide +kernel
theorem dX3_listCrowds_27 : decode cX3_listCrowds 27 = .ok (.iload 4, 2) := by decide +kernel
theorem dX3_listCrowds_29 : decode cX3_listCrowds 29 = .ok (.aload_n 0, 1) := by decide +kernel
theorem dX3_listCrowds_30 : decode cX3_listCrowds 30 = .ok (.iconst 0, 1) := by decide +kernel
theorem dX3_listCrowds_31 : decode cX3_listCrowds 31 = .ok (.invokevirtual 44, 3) := by decide +kernel
theorem dX3_listCrowds_34 : decode cX3_listCrowds 34 = .ok (.if_icmp .ge 25, 3) := by decide +kernel
theorem dX3_listCrowds_37 : decode cX3_listCrowds 37 = .ok (.aload_n 0, 1) := by decide +kernel
theorem dX3_listCrowds_38 : decode cX3_listCrowds 38 = .ok (.getfield 31, 3) := by decide +kernel
theorem dX3_listCrowds_41 : decode cX3_listCrowds 41 = .ok (.iload_n 1, 1) := by decide +kernel
theorem dX3_listCrowds_42 : decode cX3_listCrowds 42 = .ok (.iload 4, 2) := by decide +kernel
theorem dX3_listCrowds_44 : decode cX3_listCrowds 44 = .ok (.iload_n 3, 1) := by decide +kernel
theorem dX3_listCrowds_45 : decode cX3_listCrowds 45 = .ok (.iload_n 2, 1) := by decide +kernel
theorem dX3_listCrowds_46 : decode cX3_listCrowds 46 = .ok (.invokestatic 40, 3) := by decide +kernel
theorem dX3_listCrowds_49 : decode cX3_listCrowds 49 = .ok (.iastore, 1) := by decide +kernel
theorem dX3_listCrowds_50 : decode cX3_listCrowds 50 = .ok (.iinc 1 1, 3) := by decide +kernel
theorem dX3_listCrowds_53 : decode cX3_listCrowds 53 = .ok (.iinc 4 1, 3) := by decide +kernel
theorem dX3_listCrowds_56 : decode cX3_listCrowds 56 = .ok (.goto (-29), 3) := by decide +kernel
theorem dX3_listCrowds_59 : decode cX3_listCrowds 59 = .ok (.iinc 3 1, 3) := by decide +kernel
theorem dX3_listCrowds_62 : decode cX3_listCrowds 62 = .ok (.goto (-47), 3) := by decide +kernel
theorem dX3_listCrowds_65 : decode cX3_listCrowds 65 = .ok (.iinc 2 1, 3) := by decide +kernel
theorem dX3_listCrowds_68 : decode cX3_listCrowds 68 = .ok (.goto (-64), 3) := by decide +kernel
theorem dX3_listCrowds_71 : decode cX3_listCrowds 71 = .ok (.aload_n 0, 1) := by decide +kernel
theorem dX3_listCrowds_72 : decode cX3_listCrowds 72 = .ok (.iload_n 1, 1) := by decide +kernel
theorem dX3_listCrowds_73 : decode cX3_listCrowds 73 = .ok (.putfield 48, 3) := by decide +kernel
theorem dX3_listCrowds_76 : decode cX3_listCrowds 76 = .ok (.return_, 1) := by decide +kernel
theorem dX3_choicesOf_0 : decode cX3_choicesOf 0 = .ok (.iload_n 1, 1) := by decide +kernel
theorem dX3_choicesOf_1 : decode cX3_choicesOf 1 = .ok (.aload_n 0, 1) := by decide +kernel
theorem dX3_choicesOf_2 : decode cX3_choicesOf 2 = .ok (.getfield 15, 3) := by decide +kernel
theorem dX3_choicesOf_5 : decode cX3_choicesOf 5 = .ok (.if_icmp .ge 10, 3) := by decide +kernel
theorem dX3_choicesOf_8 : decode cX3_choicesOf 8 = .ok (.aload_n 0, 1) := by decide +kernel
theorem dX3_choicesOf_9 : decode cX3_choicesOf 9 = .ok (.getfield 9, 3) := by decide +kernel
theorem dX3_choicesOf_12 : decode cX3_choicesOf 12 = .ok (.goto 4, 3) := by decide +kernel
theorem dX3_choicesOf_15 : decode cX3_choicesOf 15 = .ok (.iconst 1, 1) := by decide +kernel
theorem dX3_choicesOf_16 : decode cX3_choicesOf 16 = .ok (.ireturn, 1) := by decide +kernel
theorem dX3_coded_0 : decode cX3_coded 0 = .ok (.iload_n 0, 1) := by decide +kernel
theorem dX3_coded_1 : decode cX3_coded 1 = .ok (.bipush 6, 2) := by decide +kernel
theorem dX3_coded_3 : decode cX3_coded 3 = .ok (.iload_n 1, 1) := by decide +kernel
theorem dX3_coded_4 : decode cX3_coded 4 = .ok (.imul, 1) := by decide +kernel
theorem dX3_coded_5 : decode cX3_coded 5 = .ok (.iadd, 1) := by decide +kernel
theorem dX3_coded_6 : decode cX3_coded 6 = .ok (.bipush 36, 2) := by decide +kernel
theorem dX3_coded_8 : decode cX3_coded 8 = .ok (.iload_n 2, 1) := by decide +kernel
theorem dX3_coded_9 : decode cX3_coded 9 = .ok (.imul, 1) := by decide +kernel
theorem dX3_coded_10 : decode cX3_coded 10 = .ok (.iadd, 1) := by decide +kernel
theorem dX3_coded_11 : decode cX3_coded 11 = .ok (.ireturn, 1) := by decide +kernel
theorem dX3_standingOf_0 : decode cX3_standingOf 0 = .ok (.iload_n 1, 1) := by decide +kernel
theorem dX3_standingOf_1 : decode cX3_standingOf 1 = .ok (.aload_n 0, 1) := by decide +kernel
theorem dX3_standingOf_2 : decode cX3_standingOf 2 = .ok (.getfield 15, 3) := by decide +kernel
theorem dX3_standingOf_5 : decode cX3_standingOf 5 = .ok (.iconst 1, 1) := by decide +kernel
theorem dX3_standingOf_6 : decode cX3_standingOf 6 = .ok (.if_icmp .le 7, 3) := by decide +kernel
theorem dX3_standingOf_9 : decode cX3_standingOf 9 = .ok (.iload_n 2, 1) := by decide +kernel
theorem dX3_standingOf_10 : decode cX3_standingOf 10 = .ok (.goto 4, 3) := by decide +kernel
theorem dX3_standingOf_13 : decode cX3_standingOf 13 = .ok (.iconst 0, 1) := by decide +kernel
theorem dX3_standingOf_14 : decode cX3_standingOf 14 = .ok (.aload_n 0, 1) := by decide +kernel
theorem dX3_standingOf_15 : decode cX3_standingOf 15 = .ok (.getfield 15, 3) := by decide +kernel
theorem dX3_standingOf_18 : decode cX3_standingOf 18 = .ok (.iconst 2, 1) := by decide +kernel
theorem dX3_standingOf_19 : decode cX3_standingOf 19 = .ok (.if_icmp .le 7, 3) := by decide +kernel
theorem dX3_standingOf_22 : decode cX3_standingOf 22 = .ok (.iload_n 3, 1) := by decide +kernel
theorem dX3_standingOf_23 : decode cX3_standingOf 23 = .ok (.goto 4, 3) := by decide +kernel
theorem dX3_standingOf_26 : decode cX3_standingOf 26 = .ok (.iconst 0, 1) := by decide +kernel
theorem dX3_standingOf_27 : decode cX3_standingOf 27 = .ok (.invokestatic 40, 3) := by decide +kernel
theorem dX3_standingOf_30 : decode cX3_standingOf 30 = .ok (.ireturn, 1) := by decide +kernel
theorem dX3_startStanding_0 : decode cX3_startStanding 0 = .ok (.aload_n 0, 1) := by decide +kernel
theorem dX3_startStanding_1 : decode cX3_startStanding 1 = .ok (.aload_n 0, 1) := by decide +kernel
theorem dX3_startStanding_2 : decode cX3_startStanding 2 = .ok (.getfield 25, 3) := by decide +kernel
theorem dX3_startStanding_5 : decode cX3_startStanding 5 = .ok (.iconst 0, 1) := by decide +kernel
theorem dX3_startStanding_6 : decode cX3_startStanding 6 = .ok (.iaload, 1) := by decide +kernel
theorem dX3_startStanding_7 : decode cX3_startStanding 7 = .ok (.aload_n 0, 1) := by decide +kernel
theorem dX3_startStanding_8 : decode cX3_startStanding 8 = .ok (.getfield 25, 3) := by decide +kernel
theorem dX3_startStanding_11 : decode cX3_startStanding 11 = .ok (.iconst 1, 1) := by decide +kernel
theorem dX3_startStanding_12 : decode cX3_startStanding 12 = .ok (.iaload, 1) := by decide +kernel
theorem dX3_startStanding_13 : decode cX3_startStanding 13 = .ok (.aload_n 0, 1) := by decide +kernel
theorem dX3_startStanding_14 : decode cX3_startStanding 14 = .ok (.getfield 25, 3) := by decide +kernel
theorem dX3_startStanding_17 : decode cX3_startStanding 17 = .ok (.iconst 2, 1) := by decide +kernel
theorem dX3_startStanding_18 : decode cX3_startStanding 18 = .ok (.iaload, 1) := by decide +kernel
theorem dX3_startStanding_19 : decode cX3_startStanding 19 = .ok (.invokevirtual 51, 3) := by decide +kernel
theorem dX3_startStanding_22 : decode cX3_startStanding 22 = .ok (.ireturn, 1) := by decide +kernel
theorem dX3_pointOf_0 : decode cX3_pointOf 0 = .ok (.iload_n 1, 1) := by decide +kernel
theorem dX3_pointOf_1 : decode cX3_pointOf 1 = .ok (.ifCond .ne 8, 3) := by decide +kernel
theorem dX3_pointOf_4 : decode cX3_pointOf 4 = .ok (.iload_n 0, 1) := by decide +kernel
theorem dX3_pointOf_5 : decode cX3_pointOf 5 = .ok (.bipush 6, 2) := by decide +kernel
theorem dX3_pointOf_7 : decode cX3_pointOf 7 = .ok (.irem, 1) := by decide +kernel
theorem dX3_pointOf_8 : decode cX3_pointOf 8 = .ok (.ireturn, 1) := by decide +kernel
theorem dX3_pointOf_9 : decode cX3_pointOf 9 = .ok (.iload_n 1, 1) := by decide +kernel
theorem dX3_pointOf_10 : decode cX3_pointOf 10 = .ok (.iconst 1, 1) := by decide +kernel
theorem dX3_pointOf_11 : decode cX3_pointOf 11 = .ok (.if_icmp .ne 13, 3) := by decide +kernel
theorem dX3_pointOf_14 : decode cX3_pointOf 14 = .ok (.iload_n 0, 1) := by decide +kernel
theorem dX3_pointOf_15 : decode cX3_pointOf 15 = .ok (.bipush 6, 2) := by decide +kernel
theorem dX3_pointOf_17 : decode cX3_pointOf 17 = .ok (.idiv, 1) := by decide +kernel
theorem dX3_pointOf_18 : decode cX3_pointOf 18 = .ok (.bipush 6, 2) := by decide +kernel
theorem dX3_pointOf_20 : decode cX3_pointOf 20 = .ok (.irem, 1) := by decide +kernel
theorem dX3_pointOf_21 : decode cX3_pointOf 21 = .ok (.goto 7, 3) := by decide +kernel
theorem dX3_pointOf_24 : decode cX3_pointOf 24 = .ok (.iload_n 0, 1) := by decide +kernel
theorem dX3_pointOf_25 : decode cX3_pointOf 25 = .ok (.bipush 36, 2) := by decide +kernel
theorem dX3_pointOf_27 : decode cX3_pointOf 27 = .ok (.idiv, 1) := by decide +kernel
theorem dX3_pointOf_28 : decode cX3_pointOf 28 = .ok (.ireturn, 1) := by decide +kernel
theorem dX3_moved_0 : decode cX3_moved 0 = .ok (.iload_n 2, 1) := by decide +kernel
theorem dX3_moved_1 : decode cX3_moved 1 = .ok (.iload_n 0, 1) := by decide +kernel
theorem dX3_moved_2 : decode cX3_moved 2 = .ok (.iload_n 1, 1) := by decide +kernel
theorem dX3_moved_3 : decode cX3_moved 3 = .ok (.invokestatic 54, 3) := by decide +kernel
theorem dX3_moved_6 : decode cX3_moved 6 = .ok (.isub, 1) := by decide +kernel
theorem dX3_moved_7 : decode cX3_moved 7 = .ok (.istore_n 3, 1) := by decide +kernel
theorem dX3_moved_8 : decode cX3_moved 8 = .ok (.iload_n 1, 1) := by decide +kernel
theorem dX3_moved_9 : decode cX3_moved 9 = .ok (.ifCond .ne 7, 3) := by decide +kernel
theorem dX3_moved_12 : decode cX3_moved 12 = .ok (.iload_n 0, 1) := by decide +kernel
theorem dX3_moved_13 : decode cX3_moved 13 = .ok (.iload_n 3, 1) := by decide +kernel
theorem dX3_moved_14 : decode cX3_moved 14 = .ok (.iadd, 1) := by decide +kernel
theorem dX3_moved_15 : decode cX3_moved 15 = .ok (.ireturn, 1) := by decide +kernel
theorem dX3_moved_16 : decode cX3_moved 16 = .ok (.iload_n 1, 1) := by decide +kernel
theorem dX3_moved_17 : decode cX3_moved 17 = .ok (.iconst 1, 1) := by decide +kernel
theorem dX3_moved_18 : decode cX3_moved 18 = .ok (.if_icmp .ne 12, 3) := by decide +kernel
theorem dX3_moved_21 : decode cX3_moved 21 = .ok (.iload_n 0, 1) := by decide +kernel
theorem dX3_moved_22 : decode cX3_moved 22 = .ok (.bipush 6, 2) := by decide +kernel
theorem dX3_moved_24 : decode cX3_moved 24 = .ok (.iload_n 3, 1) := by decide +kernel
theorem dX3_moved_25 : decode cX3_moved 25 = .ok (.imul, 1) := by decide +kernel
theorem dX3_moved_26 : decode cX3_moved 26 = .ok (.iadd, 1) := by decide +kernel
theorem dX3_moved_27 : decode cX3_moved 27 = .ok (.goto 9, 3) := by decide +kernel
theorem dX3_moved_30 : decode cX3_moved 30 = .ok (.iload_n 0, 1) := by decide +kernel
theorem dX3_moved_31 : decode cX3_moved 31 = .ok (.bipush 36, 2) := by decide +kernel
theorem dX3_moved_33 : decode cX3_moved 33 = .ok (.iload_n 3, 1) := by decide +kernel
theorem dX3_moved_34 : decode cX3_moved 34 = .ok (.imul, 1) := by decide +kernel
theorem dX3_moved_35 : decode cX3_moved 35 = .ok (.iadd, 1) := by decide +kernel
theorem dX3_moved_36 : decode cX3_moved 36 = .ok (.ireturn, 1) := by decide +kernel
theorem dX3_wayOf_0 : decode cX3_wayOf 0 = .ok (.aload_n 0, 1) := by decide +kernel
theorem dX3_wayOf_1 : decode cX3_wayOf 1 = .ok (.getfield 21, 3) := by decide +kernel
theorem dX3_wayOf_4 : decode cX3_wayOf 4 = .ok (.iload_n 1, 1) := by decide +kernel
theorem dX3_wayOf_5 : decode cX3_wayOf 5 = .ok (.iload_n 2, 1) := by decide +kernel
theorem dX3_wayOf_6 : decode cX3_wayOf 6 = .ok (.invokestatic 54, 3) := by decide +kernel
theorem dX3_wayOf_9 : decode cX3_wayOf 9 = .ok (.iaload, 1) := by decide +kernel
theorem dX3_wayOf_10 : decode cX3_wayOf 10 = .ok (.aload_n 0, 1) := by decide +kernel
theorem dX3_wayOf_11 : decode cX3_wayOf 11 = .ok (.getfield 21, 3) := by decide +kernel
theorem dX3_wayOf_14 : decode cX3_wayOf 14 = .ok (.iload_n 3, 1) := by decide +kernel
theorem dX3_wayOf_15 : decode cX3_wayOf 15 = .ok (.iaload, 1) := by decide +kernel
theorem dX3_wayOf_16 : decode cX3_wayOf 16 = .ok (.isub, 1) := by decide +kernel
theorem dX3_wayOf_17 : decode cX3_wayOf 17 = .ok (.invokestatic 58, 3) := by decide +kernel
theorem dX3_wayOf_20 : decode cX3_wayOf 20 = .ok (.ireturn, 1) := by decide +kernel
theorem dX3_leastWays_0 : decode cX3_leastWays 0 = .ok (.aload_n 0, 1) := by decide +kernel
theorem dX3_leastWays_1 : decode cX3_leastWays 1 = .ok (.getfield 15, 3) := by decide +kernel
theorem dX3_leastWays_4 : decode cX3_leastWays 4 = .ok (.iconst 1, 1) := by decide +kernel
theorem dX3_leastWays_5 : decode cX3_leastWays 5 = .ok (.if_icmp .ne 14, 3) := by decide +kernel
theorem dX3_leastWays_8 : decode cX3_leastWays 8 = .ok (.aload_n 1, 1) := by decide +kernel
theorem dX3_leastWays_9 : decode cX3_leastWays 9 = .ok (.iconst 0, 1) := by decide +kernel
theorem dX3_leastWays_10 : decode cX3_leastWays 10 = .ok (.iaload, 1) := by decide +kernel
theorem dX3_leastWays_11 : decode cX3_leastWays 11 = .ok (.aload_n 2, 1) := by decide +kernel
theorem dX3_leastWays_12 : decode cX3_leastWays 12 = .ok (.iconst 0, 1) := by decide +kernel
theorem dX3_leastWays_13 : decode cX3_leastWays 13 = .ok (.iaload, 1) := by decide +kernel
theorem dX3_leastWays_14 : decode cX3_leastWays 14 = .ok (.isub, 1) := by decide +kernel
theorem dX3_leastWays_15 : decode cX3_leastWays 15 = .ok (.invokestatic 58, 3) := by decide +kernel
theorem dX3_leastWays_18 : decode cX3_leastWays 18 = .ok (.ireturn, 1) := by decide +kernel
theorem dX3_leastWays_19 : decode cX3_leastWays 19 = .ok (.aload_n 0, 1) := by decide +kernel
theorem dX3_leastWays_20 : decode cX3_leastWays 20 = .ok (.getfield 15, 3) := by decide +kernel
theorem dX3_leastWays_23 : decode cX3_leastWays 23 = .ok (.iconst 2, 1) := by decide +kernel
theorem dX3_leastWays_24 : decode cX3_leastWays 24 = .ok (.if_icmp .ne 19, 3) := by decide +kernel
theorem dX3_leastWays_27 : decode cX3_leastWays 27 = .ok (.aload_n 1, 1) := by decide +kernel
theorem dX3_leastWays_28 : decode cX3_leastWays 28 = .ok (.iconst 0, 1) := by decide +kernel
theorem dX3_leastWays_29 : decode cX3_leastWays 29 = .ok (.iaload, 1) := by decide +kernel
theorem dX3_leastWays_30 : decode cX3_leastWays 30 = .ok (.aload_n 1, 1) := by decide +kernel
theorem dX3_leastWays_31 : decode cX3_leastWays 31 = .ok (.iconst 1, 1) := by decide +kernel
theorem dX3_leastWays_32 : decode cX3_leastWays 32 = .ok (.iaload, 1) := by decide +kernel
theorem dX3_leastWays_33 : decode cX3_leastWays 33 = .ok (.aload_n 2, 1) := by decide +kernel
theorem dX3_leastWays_34 : decode cX3_leastWays 34 = .ok (.iconst 0, 1) := by decide +kernel
theorem dX3_leastWays_35 : decode cX3_leastWays 35 = .ok (.iaload, 1) := by decide +kernel
theorem dX3_leastWays_36 : decode cX3_leastWays 36 = .ok (.aload_n 2, 1) := by decide +kernel
theorem dX3_leastWays_37 : decode cX3_leastWays 37 = .ok (.iconst 1, 1) := by decide +kernel
theorem dX3_leastWays_38 : decode cX3_leastWays 38 = .ok (.iaload, 1) := by decide +kernel
theorem dX3_leastWays_39 : decode cX3_leastWays 39 = .ok (.invokestatic 63, 3) := by decide +kernel
theorem dX3_leastWays_42 : decode cX3_leastWays 42 = .ok (.ireturn, 1) := by decide +kernel
theorem dX3_leastWays_43 : decode cX3_leastWays 43 = .ok (.aload_n 1, 1) := by decide +kernel
theorem dX3_leastWays_44 : decode cX3_leastWays 44 = .ok (.iconst 0, 1) := by decide +kernel
theorem dX3_leastWays_45 : decode cX3_leastWays 45 = .ok (.iaload, 1) := by decide +kernel
theorem dX3_leastWays_46 : decode cX3_leastWays 46 = .ok (.aload_n 2, 1) := by decide +kernel
theorem dX3_leastWays_47 : decode cX3_leastWays 47 = .ok (.iconst 0, 1) := by decide +kernel
theorem dX3_leastWays_48 : decode cX3_leastWays 48 = .ok (.iaload, 1) := by decide +kernel
theorem dX3_leastWays_49 : decode cX3_leastWays 49 = .ok (.isub, 1) := by decide +kernel
theorem dX3_leastWays_50 : decode cX3_leastWays 50 = .ok (.invokestatic 58, 3) := by decide +kernel
theorem dX3_leastWays_53 : decode cX3_leastWays 53 = .ok (.aload_n 1, 1) := by decide +kernel
theorem dX3_leastWays_54 : decode cX3_leastWays 54 = .ok (.iconst 1, 1) := by decide +kernel
theorem dX3_leastWays_55 : decode cX3_leastWays 55 = .ok (.iaload, 1) := by decide +kernel
theorem dX3_leastWays_56 : decode cX3_leastWays 56 = .ok (.aload_n 1, 1) := by decide +kernel
theorem dX3_leastWays_57 : decode cX3_leastWays 57 = .ok (.iconst 2, 1) := by decide +kernel
theorem dX3_leastWays_58 : decode cX3_leastWays 58 = .ok (.iaload, 1) := by decide +kernel
theorem dX3_leastWays_59 : decode cX3_leastWays 59 = .ok (.aload_n 2, 1) := by decide +kernel
theorem dX3_leastWays_60 : decode cX3_leastWays 60 = .ok (.iconst 1, 1) := by decide +kernel
theorem dX3_leastWays_61 : decode cX3_leastWays 61 = .ok (.iaload, 1) := by decide +kernel
theorem dX3_leastWays_62 : decode cX3_leastWays 62 = .ok (.aload_n 2, 1) := by decide +kernel
theorem dX3_leastWays_63 : decode cX3_leastWays 63 = .ok (.iconst 2, 1) := by decide +kernel
theorem dX3_leastWays_64 : decode cX3_leastWays 64 = .ok (.iaload, 1) := by decide +kernel
theorem dX3_leastWays_65 : decode cX3_leastWays 65 = .ok (.invokestatic 63, 3) := by decide +kernel
theorem dX3_leastWays_68 : decode cX3_leastWays 68 = .ok (.iadd, 1) := by decide +kernel
theorem dX3_leastWays_69 : decode cX3_leastWays 69 = .ok (.istore_n 3, 1) := by decide +kernel
theorem dX3_leastWays_70 : decode cX3_leastWays 70 = .ok (.aload_n 1, 1) := by decide +kernel
theorem dX3_leastWays_71 : decode cX3_leastWays 71 = .ok (.iconst 0, 1) := by decide +kernel
theorem dX3_leastWays_72 : decode cX3_leastWays 72 = .ok (.iaload, 1) := by decide +kernel
theorem dX3_leastWays_73 : decode cX3_leastWays 73 = .ok (.aload_n 2, 1) := by decide +kernel
theorem dX3_leastWays_74 : decode cX3_leastWays 74 = .ok (.iconst 1, 1) := by decide +kernel
theorem dX3_leastWays_75 : decode cX3_leastWays 75 = .ok (.iaload, 1) := by decide +kernel
theorem dX3_leastWays_76 : decode cX3_leastWays 76 = .ok (.isub, 1) := by decide +kernel
theorem dX3_leastWays_77 : decode cX3_leastWays 77 = .ok (.invokestatic 58, 3) := by decide +kernel
theorem dX3_leastWays_80 : decode cX3_leastWays 80 = .ok (.aload_n 1, 1) := by decide +kernel
theorem dX3_leastWays_81 : decode cX3_leastWays 81 = .ok (.iconst 1, 1) := by decide +kernel
theorem dX3_leastWays_82 : decode cX3_leastWays 82 = .ok (.iaload, 1) := by decide +kernel
theorem dX3_leastWays_83 : decode cX3_leastWays 83 = .ok (.aload_n 1, 1) := by decide +kernel
theorem dX3_leastWays_84 : decode cX3_leastWays 84 = .ok (.iconst 2, 1) := by decide +kernel
theorem dX3_leastWays_85 : decode cX3_leastWays 85 = .ok (.iaload, 1) := by decide +kernel
theorem dX3_leastWays_86 : decode cX3_leastWays 86 = .ok (.aload_n 2, 1) := by decide +kernel
theorem dX3_leastWays_87 : decode cX3_leastWays 87 = .ok (.iconst 0, 1) := by decide +kernel
theorem dX3_leastWays_88 : decode cX3_leastWays 88 = .ok (.iaload, 1) := by decide +kernel
theorem dX3_leastWays_89 : decode cX3_leastWays 89 = .ok (.aload_n 2, 1) := by decide +kernel
theorem dX3_leastWays_90 : decode cX3_leastWays 90 = .ok (.iconst 2, 1) := by decide +kernel
theorem dX3_leastWays_91 : decode cX3_leastWays 91 = .ok (.iaload, 1) := by decide +kernel
theorem dX3_leastWays_92 : decode cX3_leastWays 92 = .ok (.invokestatic 63, 3) := by decide +kernel
theorem dX3_leastWays_95 : decode cX3_leastWays 95 = .ok (.iadd, 1) := by decide +kernel
theorem dX3_leastWays_96 : decode cX3_leastWays 96 = .ok (.istore 4, 2) := by decide +kernel
theorem dX3_leastWays_98 : decode cX3_leastWays 98 = .ok (.aload_n 1, 1) := by decide +kernel
theorem dX3_leastWays_99 : decode cX3_leastWays 99 = .ok (.iconst 0, 1) := by decide +kernel
theorem dX3_leastWays_100 : decode cX3_leastWays 100 = .ok (.iaload, 1) := by decide +kernel
theorem dX3_leastWays_101 : decode cX3_leastWays 101 = .ok (.aload_n 2, 1) := by decide +kernel
theorem dX3_leastWays_102 : decode cX3_leastWays 102 = .ok (.iconst 2, 1) := by decide +kernel
theorem dX3_leastWays_103 : decode cX3_leastWays 103 = .ok (.iaload, 1) := by decide +kernel
theorem dX3_leastWays_104 : decode cX3_leastWays 104 = .ok (.isub, 1) := by decide +kernel
theorem dX3_leastWays_105 : decode cX3_leastWays 105 = .ok (.invokestatic 58, 3) := by decide +kernel
theorem dX3_leastWays_108 : decode cX3_leastWays 108 = .ok (.aload_n 1, 1) := by decide +kernel
theorem dX3_leastWays_109 : decode cX3_leastWays 109 = .ok (.iconst 1, 1) := by decide +kernel
theorem dX3_leastWays_110 : decode cX3_leastWays 110 = .ok (.iaload, 1) := by decide +kernel
theorem dX3_leastWays_111 : decode cX3_leastWays 111 = .ok (.aload_n 1, 1) := by decide +kernel
theorem dX3_leastWays_112 : decode cX3_leastWays 112 = .ok (.iconst 2, 1) := by decide +kernel
theorem dX3_leastWays_113 : decode cX3_leastWays 113 = .ok (.iaload, 1) := by decide +kernel
theorem dX3_leastWays_114 : decode cX3_leastWays 114 = .ok (.aload_n 2, 1) := by decide +kernel
theorem dX3_leastWays_115 : decode cX3_leastWays 115 = .ok (.iconst 0, 1) := by decide +kernel
theorem dX3_leastWays_116 : decode cX3_leastWays 116 = .ok (.iaload, 1) := by decide +kernel
theorem dX3_leastWays_117 : decode cX3_leastWays 117 = .ok (.aload_n 2, 1) := by decide +kernel
theorem dX3_leastWays_118 : decode cX3_leastWays 118 = .ok (.iconst 1, 1) := by decide +kernel
theorem dX3_leastWays_119 : decode cX3_leastWays 119 = .ok (.iaload, 1) := by decide +kernel
theorem dX3_leastWays_120 : decode cX3_leastWays 120 = .ok (.invokestatic 63, 3) := by decide +kernel
theorem dX3_leastWays_123 : decode cX3_leastWays 123 = .ok (.iadd, 1) := by decide +kernel
theorem dX3_leastWays_124 : decode cX3_leastWays 124 = .ok (.istore 5, 2) := by decide +kernel
theorem dX3_leastWays_126 : decode cX3_leastWays 126 = .ok (.iload_n 3, 1) := by decide +kernel
theorem dX3_leastWays_127 : decode cX3_leastWays 127 = .ok (.iload 4, 2) := by decide +kernel
theorem dX3_leastWays_129 : decode cX3_leastWays 129 = .ok (.iload 5, 2) := by decide +kernel
theorem dX3_leastWays_131 : decode cX3_leastWays 131 = .ok (.invokestatic 67, 3) := by decide +kernel
theorem dX3_leastWays_134 : decode cX3_leastWays 134 = .ok (.invokestatic 67, 3) := by decide +kernel
theorem dX3_leastWays_137 : decode cX3_leastWays 137 = .ok (.ireturn, 1) := by decide +kernel
theorem dX3_pairWays_0 : decode cX3_pairWays 0 = .ok (.iload_n 0, 1) := by decide +kernel
theorem dX3_pairWays_1 : decode cX3_pairWays 1 = .ok (.iload_n 2, 1) := by decide +kernel
theorem dX3_pairWays_2 : decode cX3_pairWays 2 = .ok (.isub, 1) := by decide +kernel
theorem dX3_pairWays_3 : decode cX3_pairWays 3 = .ok (.invokestatic 58, 3) := by decide +kernel
theorem dX3_pairWays_6 : decode cX3_pairWays 6 = .ok (.iload_n 1, 1) := by decide +kernel
theorem dX3_pairWays_7 : decode cX3_pairWays 7 = .ok (.iload_n 3, 1) := by decide +kernel
end
section
theorem dX3_pairWays_8 : decode cX3_pairWays 8 = .ok (.isub, 1) := by decide +kernel
theorem dX3_pairWays_9 : decode cX3_pairWays 9 = .ok (.invokestatic 58, 3) := by decide +kernel
theorem dX3_pairWays_12 : decode cX3_pairWays 12 = .ok (.iadd, 1) := by decide +kernel
theorem dX3_pairWays_13 : decode cX3_pairWays 13 = .ok (.istore 4, 2) := by decide +kernel
theorem dX3_pairWays_15 : decode cX3_pairWays 15 = .ok (.iload_n 0, 1) := by decide +kernel
theorem dX3_pairWays_16 : decode cX3_pairWays 16 = .ok (.iload_n 3, 1) := by decide +kernel
theorem dX3_pairWays_17 : decode cX3_pairWays 17 = .ok (.isub, 1) := by decide +kernel
theorem dX3_pairWays_18 : decode cX3_pairWays 18 = .ok (.invokestatic 58, 3) := by decide +kernel
theorem dX3_pairWays_21 : decode cX3_pairWays 21 = .ok (.iload_n 1, 1) := by decide +kernel
theorem dX3_pairWays_22 : decode cX3_pairWays 22 = .ok (.iload_n 2, 1) := by decide +kernel
theorem dX3_pairWays_23 : decode cX3_pairWays 23 = .ok (.isub, 1) := by decide +kernel
theorem dX3_pairWays_24 : decode cX3_pairWays 24 = .ok (.invokestatic 58, 3) := by decide +kernel
theorem dX3_pairWays_27 : decode cX3_pairWays 27 = .ok (.iadd, 1) := by decide +kernel
theorem dX3_pairWays_28 : decode cX3_pairWays 28 = .ok (.istore 5, 2) := by decide +kernel
theorem dX3_pairWays_30 : decode cX3_pairWays 30 = .ok (.iload 4, 2) := by decide +kernel
theorem dX3_pairWays_32 : decode cX3_pairWays 32 = .ok (.iload 5, 2) := by decide +kernel
theorem dX3_pairWays_34 : decode cX3_pairWays 34 = .ok (.invokestatic 67, 3) := by decide +kernel
theorem dX3_pairWays_37 : decode cX3_pairWays 37 = .ok (.ireturn, 1) := by decide +kernel
theorem dX3_waysAmong_0 : decode cX3_waysAmong 0 = .ok (.iconst 0, 1) := by decide +kernel
theorem dX3_waysAmong_1 : decode cX3_waysAmong 1 = .ok (.istore_n 2, 1) := by decide +kernel
theorem dX3_waysAmong_2 : decode cX3_waysAmong 2 = .ok (.iconst 0, 1) := by decide +kernel
theorem dX3_waysAmong_3 : decode cX3_waysAmong 3 = .ok (.istore_n 3, 1) := by decide +kernel
theorem dX3_waysAmong_4 : decode cX3_waysAmong 4 = .ok (.iload_n 3, 1) := by decide +kernel
theorem dX3_waysAmong_5 : decode cX3_waysAmong 5 = .ok (.aload_n 0, 1) := by decide +kernel
theorem dX3_waysAmong_6 : decode cX3_waysAmong 6 = .ok (.getfield 15, 3) := by decide +kernel
theorem dX3_waysAmong_9 : decode cX3_waysAmong 9 = .ok (.if_icmp .ge 43, 3) := by decide +kernel
theorem dX3_waysAmong_12 : decode cX3_waysAmong 12 = .ok (.iload_n 3, 1) := by decide +kernel
theorem dX3_waysAmong_13 : decode cX3_waysAmong 13 = .ok (.iconst 1, 1) := by decide +kernel
theorem dX3_waysAmong_14 : decode cX3_waysAmong 14 = .ok (.iadd, 1) := by decide +kernel
theorem dX3_waysAmong_15 : decode cX3_waysAmong 15 = .ok (.istore 4, 2) := by decide +kernel
theorem dX3_waysAmong_17 : decode cX3_waysAmong 17 = .ok (.iload 4, 2) := by decide +kernel
theorem dX3_waysAmong_19 : decode cX3_waysAmong 19 = .ok (.aload_n 0, 1) := by decide +kernel
theorem dX3_waysAmong_20 : decode cX3_waysAmong 20 = .ok (.getfield 15, 3) := by decide +kernel
theorem dX3_waysAmong_23 : decode cX3_waysAmong 23 = .ok (.if_icmp .ge 23, 3) := by decide +kernel
theorem dX3_waysAmong_26 : decode cX3_waysAmong 26 = .ok (.iload_n 2, 1) := by decide +kernel
theorem dX3_waysAmong_27 : decode cX3_waysAmong 27 = .ok (.aload_n 1, 1) := by decide +kernel
theorem dX3_waysAmong_28 : decode cX3_waysAmong 28 = .ok (.iload_n 3, 1) := by decide +kernel
theorem dX3_waysAmong_29 : decode cX3_waysAmong 29 = .ok (.iaload, 1) := by decide +kernel
theorem dX3_waysAmong_30 : decode cX3_waysAmong 30 = .ok (.aload_n 1, 1) := by decide +kernel
theorem dX3_waysAmong_31 : decode cX3_waysAmong 31 = .ok (.iload 4, 2) := by decide +kernel
theorem dX3_waysAmong_33 : decode cX3_waysAmong 33 = .ok (.iaload, 1) := by decide +kernel
theorem dX3_waysAmong_34 : decode cX3_waysAmong 34 = .ok (.isub, 1) := by decide +kernel
theorem dX3_waysAmong_35 : decode cX3_waysAmong 35 = .ok (.invokestatic 58, 3) := by decide +kernel
theorem dX3_waysAmong_38 : decode cX3_waysAmong 38 = .ok (.iadd, 1) := by decide +kernel
theorem dX3_waysAmong_39 : decode cX3_waysAmong 39 = .ok (.istore_n 2, 1) := by decide +kernel
theorem dX3_waysAmong_40 : decode cX3_waysAmong 40 = .ok (.iinc 4 1, 3) := by decide +kernel
theorem dX3_waysAmong_43 : decode cX3_waysAmong 43 = .ok (.goto (-26), 3) := by decide +kernel
theorem dX3_waysAmong_46 : decode cX3_waysAmong 46 = .ok (.iinc 3 1, 3) := by decide +kernel
theorem dX3_waysAmong_49 : decode cX3_waysAmong 49 = .ok (.goto (-45), 3) := by decide +kernel
theorem dX3_waysAmong_52 : decode cX3_waysAmong 52 = .ok (.iload_n 2, 1) := by decide +kernel
theorem dX3_waysAmong_53 : decode cX3_waysAmong 53 = .ok (.ireturn, 1) := by decide +kernel
theorem dX4_init_0 : decode cX4_init 0 = .ok (.aload_n 0, 1) := by decide +kernel
theorem dX4_init_1 : decode cX4_init 1 = .ok (.invokespecial 3, 3) := by decide +kernel
theorem dX4_init_4 : decode cX4_init 4 = .ok (.aload_n 0, 1) := by decide +kernel
theorem dX4_init_5 : decode cX4_init 5 = .ok (.aload_n 1, 1) := by decide +kernel
theorem dX4_init_6 : decode cX4_init 6 = .ok (.putfield 9, 3) := by decide +kernel
theorem dX4_init_9 : decode cX4_init 9 = .ok (.aload_n 0, 1) := by decide +kernel
theorem dX4_init_10 : decode cX4_init 10 = .ok (.aload_n 2, 1) := by decide +kernel
theorem dX4_init_11 : decode cX4_init 11 = .ok (.putfield 15, 3) := by decide +kernel
theorem dX4_init_14 : decode cX4_init 14 = .ok (.aload_n 0, 1) := by decide +kernel
theorem dX4_init_15 : decode cX4_init 15 = .ok (.new 19, 3) := by decide +kernel
theorem dX4_init_18 : decode cX4_init 18 = .ok (.dup, 1) := by decide +kernel
theorem dX4_init_19 : decode cX4_init 19 = .ok (.aload_n 1, 1) := by decide +kernel
theorem dX4_init_20 : decode cX4_init 20 = .ok (.invokespecial 21, 3) := by decide +kernel
theorem dX4_init_23 : decode cX4_init 23 = .ok (.putfield 24, 3) := by decide +kernel
theorem dX4_init_26 : decode cX4_init 26 = .ok (.return_, 1) := by decide +kernel
theorem dX4_behind_0 : decode cX4_behind 0 = .ok (.aload_n 0, 1) := by decide +kernel
theorem dX4_behind_1 : decode cX4_behind 1 = .ok (.getfield 15, 3) := by decide +kernel
theorem dX4_behind_4 : decode cX4_behind 4 = .ok (.aload_n 1, 1) := by decide +kernel
theorem dX4_behind_5 : decode cX4_behind 5 = .ok (.invokevirtual 28, 3) := by decide +kernel
theorem dX4_behind_8 : decode cX4_behind 8 = .ok (.pop, 1) := by decide +kernel
theorem dX4_behind_9 : decode cX4_behind 9 = .ok (.aload_n 1, 1) := by decide +kernel
theorem dX4_behind_10 : decode cX4_behind 10 = .ok (.aload_n 0, 1) := by decide +kernel
theorem dX4_behind_11 : decode cX4_behind 11 = .ok (.getfield 15, 3) := by decide +kernel
theorem dX4_behind_14 : decode cX4_behind 14 = .ok (.iload_n 2, 1) := by decide +kernel
theorem dX4_behind_15 : decode cX4_behind 15 = .ok (.invokevirtual 34, 3) := by decide +kernel
theorem dX4_behind_18 : decode cX4_behind 18 = .ok (.pop, 1) := by decide +kernel
theorem dX4_behind_19 : decode cX4_behind 19 = .ok (.aload_n 1, 1) := by decide +kernel
theorem dX4_behind_20 : decode cX4_behind 20 = .ok (.aload_n 0, 1) := by decide +kernel
theorem dX4_behind_21 : decode cX4_behind 21 = .ok (.getfield 24, 3) := by decide +kernel
theorem dX4_behind_24 : decode cX4_behind 24 = .ok (.iload_n 2, 1) := by decide +kernel
theorem dX4_behind_25 : decode cX4_behind 25 = .ok (.invokevirtual 34, 3) := by decide +kernel
theorem dX4_behind_28 : decode cX4_behind 28 = .ok (.pop, 1) := by decide +kernel
theorem dX4_behind_29 : decode cX4_behind 29 = .ok (.aload_n 0, 1) := by decide +kernel
theorem dX4_behind_30 : decode cX4_behind 30 = .ok (.invokevirtual 40, 3) := by decide +kernel
theorem dX4_behind_33 : decode cX4_behind 33 = .ok (.ireturn, 1) := by decide +kernel
theorem dX4_firstUnpaid_0 : decode cX4_firstUnpaid 0 = .ok (.aload_n 0, 1) := by decide +kernel
theorem dX4_firstUnpaid_1 : decode cX4_firstUnpaid 1 = .ok (.getfield 15, 3) := by decide +kernel
theorem dX4_firstUnpaid_4 : decode cX4_firstUnpaid 4 = .ok (.aload_n 1, 1) := by decide +kernel
theorem dX4_firstUnpaid_5 : decode cX4_firstUnpaid 5 = .ok (.invokevirtual 28, 3) := by decide +kernel
theorem dX4_firstUnpaid_8 : decode cX4_firstUnpaid 8 = .ok (.pop, 1) := by decide +kernel
theorem dX4_firstUnpaid_9 : decode cX4_firstUnpaid 9 = .ok (.aload_n 0, 1) := by decide +kernel
theorem dX4_firstUnpaid_10 : decode cX4_firstUnpaid 10 = .ok (.getfield 15, 3) := by decide +kernel
theorem dX4_firstUnpaid_13 : decode cX4_firstUnpaid 13 = .ok (.invokevirtual 44, 3) := by decide +kernel
theorem dX4_firstUnpaid_16 : decode cX4_firstUnpaid 16 = .ok (.aload_n 0, 1) := by decide +kernel
theorem dX4_firstUnpaid_17 : decode cX4_firstUnpaid 17 = .ok (.getfield 24, 3) := by decide +kernel
theorem dX4_firstUnpaid_20 : decode cX4_firstUnpaid 20 = .ok (.invokevirtual 47, 3) := by decide +kernel
theorem dX4_firstUnpaid_23 : decode cX4_firstUnpaid 23 = .ok (.iconst 0, 1) := by decide +kernel
theorem dX4_firstUnpaid_24 : decode cX4_firstUnpaid 24 = .ok (.istore_n 2, 1) := by decide +kernel
theorem dX4_firstUnpaid_25 : decode cX4_firstUnpaid 25 = .ok (.iload_n 2, 1) := by decide +kernel
theorem dX4_firstUnpaid_26 : decode cX4_firstUnpaid 26 = .ok (.aload_n 1, 1) := by decide +kernel
theorem dX4_firstUnpaid_27 : decode cX4_firstUnpaid 27 = .ok (.getfield 48, 3) := by decide +kernel
theorem dX4_firstUnpaid_30 : decode cX4_firstUnpaid 30 = .ok (.if_icmp .ge 24, 3) := by decide +kernel
theorem dX4_firstUnpaid_33 : decode cX4_firstUnpaid 33 = .ok (.aload_n 0, 1) := by decide +kernel
theorem dX4_firstUnpaid_34 : decode cX4_firstUnpaid 34 = .ok (.aload_n 1, 1) := by decide +kernel
theorem dX4_firstUnpaid_35 : decode cX4_firstUnpaid 35 = .ok (.getfield 52, 3) := by decide +kernel
theorem dX4_firstUnpaid_38 : decode cX4_firstUnpaid 38 = .ok (.iload_n 2, 1) := by decide +kernel
theorem dX4_firstUnpaid_39 : decode cX4_firstUnpaid 39 = .ok (.iaload, 1) := by decide +kernel
theorem dX4_firstUnpaid_40 : decode cX4_firstUnpaid 40 = .ok (.invokevirtual 56, 3) := by decide +kernel
theorem dX4_firstUnpaid_43 : decode cX4_firstUnpaid 43 = .ok (.ifCond .ne 5, 3) := by decide +kernel
theorem dX4_firstUnpaid_46 : decode cX4_firstUnpaid 46 = .ok (.iload_n 2, 1) := by decide +kernel
theorem dX4_firstUnpaid_47 : decode cX4_firstUnpaid 47 = .ok (.ireturn, 1) := by decide +kernel
theorem dX4_firstUnpaid_48 : decode cX4_firstUnpaid 48 = .ok (.iinc 2 1, 3) := by decide +kernel
theorem dX4_firstUnpaid_51 : decode cX4_firstUnpaid 51 = .ok (.goto (-26), 3) := by decide +kernel
theorem dX4_firstUnpaid_54 : decode cX4_firstUnpaid 54 = .ok (.iconst (-1), 1) := by decide +kernel
theorem dX4_firstUnpaid_55 : decode cX4_firstUnpaid 55 = .ok (.ireturn, 1) := by decide +kernel
theorem dX4_paysAt_0 : decode cX4_paysAt 0 = .ok (.aload_n 0, 1) := by decide +kernel
theorem dX4_paysAt_1 : decode cX4_paysAt 1 = .ok (.invokevirtual 40, 3) := by decide +kernel
theorem dX4_paysAt_4 : decode cX4_paysAt 4 = .ok (.aload_n 0, 1) := by decide +kernel
theorem dX4_paysAt_5 : decode cX4_paysAt 5 = .ok (.getfield 24, 3) := by decide +kernel
theorem dX4_paysAt_8 : decode cX4_paysAt 8 = .ok (.getfield 60, 3) := by decide +kernel
theorem dX4_paysAt_11 : decode cX4_paysAt 11 = .ok (.iadd, 1) := by decide +kernel
theorem dX4_paysAt_12 : decode cX4_paysAt 12 = .ok (.istore_n 2, 1) := by decide +kernel
theorem dX4_paysAt_13 : decode cX4_paysAt 13 = .ok (.aload_n 0, 1) := by decide +kernel
theorem dX4_paysAt_14 : decode cX4_paysAt 14 = .ok (.getfield 15, 3) := by decide +kernel
theorem dX4_paysAt_17 : decode cX4_paysAt 17 = .ok (.getfield 63, 3) := by decide +kernel
theorem dX4_paysAt_20 : decode cX4_paysAt 20 = .ok (.istore_n 3, 1) := by decide +kernel
theorem dX4_paysAt_21 : decode cX4_paysAt 21 = .ok (.aload_n 0, 1) := by decide +kernel
theorem dX4_paysAt_22 : decode cX4_paysAt 22 = .ok (.getfield 24, 3) := by decide +kernel
theorem dX4_paysAt_25 : decode cX4_paysAt 25 = .ok (.iload_n 1, 1) := by decide +kernel
theorem dX4_paysAt_26 : decode cX4_paysAt 26 = .ok (.iconst (-1), 1) := by decide +kernel
theorem dX4_paysAt_27 : decode cX4_paysAt 27 = .ok (.invokevirtual 64, 3) := by decide +kernel
theorem dX4_paysAt_30 : decode cX4_paysAt 30 = .ok (.aload_n 0, 1) := by decide +kernel
theorem dX4_paysAt_31 : decode cX4_paysAt 31 = .ok (.getfield 15, 3) := by decide +kernel
theorem dX4_paysAt_34 : decode cX4_paysAt 34 = .ok (.iload_n 1, 1) := by decide +kernel
theorem dX4_paysAt_35 : decode cX4_paysAt 35 = .ok (.iconst (-1), 1) := by decide +kernel
theorem dX4_paysAt_36 : decode cX4_paysAt 36 = .ok (.invokevirtual 68, 3) := by decide +kernel
theorem dX4_paysAt_39 : decode cX4_paysAt 39 = .ok (.aload_n 0, 1) := by decide +kernel
theorem dX4_paysAt_40 : decode cX4_paysAt 40 = .ok (.invokevirtual 40, 3) := by decide +kernel
theorem dX4_paysAt_43 : decode cX4_paysAt 43 = .ok (.aload_n 0, 1) := by decide +kernel
theorem dX4_paysAt_44 : decode cX4_paysAt 44 = .ok (.getfield 24, 3) := by decide +kernel
theorem dX4_paysAt_47 : decode cX4_paysAt 47 = .ok (.getfield 60, 3) := by decide +kernel
theorem dX4_paysAt_50 : decode cX4_paysAt 50 = .ok (.iadd, 1) := by decide +kernel
theorem dX4_paysAt_51 : decode cX4_paysAt 51 = .ok (.iload_n 2, 1) := by decide +kernel
theorem dX4_paysAt_52 : decode cX4_paysAt 52 = .ok (.isub, 1) := by decide +kernel
theorem dX4_paysAt_53 : decode cX4_paysAt 53 = .ok (.istore 4, 2) := by decide +kernel
theorem dX4_paysAt_55 : decode cX4_paysAt 55 = .ok (.iload 4, 2) := by decide +kernel
theorem dX4_paysAt_57 : decode cX4_paysAt 57 = .ok (.aload_n 0, 1) := by decide +kernel
theorem dX4_paysAt_58 : decode cX4_paysAt 58 = .ok (.getfield 9, 3) := by decide +kernel
theorem dX4_paysAt_61 : decode cX4_paysAt 61 = .ok (.getfield 69, 3) := by decide +kernel
theorem dX4_paysAt_64 : decode cX4_paysAt 64 = .ok (.aload_n 0, 1) := by decide +kernel
theorem dX4_paysAt_65 : decode cX4_paysAt 65 = .ok (.getfield 15, 3) := by decide +kernel
theorem dX4_paysAt_68 : decode cX4_paysAt 68 = .ok (.getfield 63, 3) := by decide +kernel
theorem dX4_paysAt_71 : decode cX4_paysAt 71 = .ok (.iload_n 3, 1) := by decide +kernel
theorem dX4_paysAt_72 : decode cX4_paysAt 72 = .ok (.isub, 1) := by decide +kernel
theorem dX4_paysAt_73 : decode cX4_paysAt 73 = .ok (.imul, 1) := by decide +kernel
theorem dX4_paysAt_74 : decode cX4_paysAt 74 = .ok (.if_icmp .gt 7, 3) := by decide +kernel
theorem dX4_paysAt_77 : decode cX4_paysAt 77 = .ok (.iconst 1, 1) := by decide +kernel
theorem dX4_paysAt_78 : decode cX4_paysAt 78 = .ok (.goto 4, 3) := by decide +kernel
theorem dX4_paysAt_81 : decode cX4_paysAt 81 = .ok (.iconst 0, 1) := by decide +kernel
theorem dX4_paysAt_82 : decode cX4_paysAt 82 = .ok (.ireturn, 1) := by decide +kernel
theorem dX4_stored_0 : decode cX4_stored 0 = .ok (.aload_n 0, 1) := by decide +kernel
theorem dX4_stored_1 : decode cX4_stored 1 = .ok (.getfield 9, 3) := by decide +kernel
theorem dX4_stored_4 : decode cX4_stored 4 = .ok (.getfield 69, 3) := by decide +kernel
theorem dX4_stored_7 : decode cX4_stored 7 = .ok (.aload_n 0, 1) := by decide +kernel
theorem dX4_stored_8 : decode cX4_stored 8 = .ok (.getfield 9, 3) := by decide +kernel
theorem dX4_stored_11 : decode cX4_stored 11 = .ok (.aload_n 0, 1) := by decide +kernel
theorem dX4_stored_12 : decode cX4_stored 12 = .ok (.getfield 24, 3) := by decide +kernel
theorem dX4_stored_15 : decode cX4_stored 15 = .ok (.getfield 74, 3) := by decide +kernel
theorem dX4_stored_18 : decode cX4_stored 18 = .ok (.aload_n 0, 1) := by decide +kernel
theorem dX4_stored_19 : decode cX4_stored 19 = .ok (.getfield 15, 3) := by decide +kernel
theorem dX4_stored_22 : decode cX4_stored 22 = .ok (.getfield 77, 3) := by decide +kernel
theorem dX4_stored_25 : decode cX4_stored 25 = .ok (.invokevirtual 78, 3) := by decide +kernel
theorem dX4_stored_28 : decode cX4_stored 28 = .ok (.imul, 1) := by decide +kernel
theorem dX4_stored_29 : decode cX4_stored 29 = .ok (.aload_n 0, 1) := by decide +kernel
theorem dX4_stored_30 : decode cX4_stored 30 = .ok (.getfield 9, 3) := by decide +kernel
theorem dX4_stored_33 : decode cX4_stored 33 = .ok (.aload_n 0, 1) := by decide +kernel
theorem dX4_stored_34 : decode cX4_stored 34 = .ok (.getfield 24, 3) := by decide +kernel
theorem dX4_stored_37 : decode cX4_stored 37 = .ok (.getfield 74, 3) := by decide +kernel
theorem dX4_stored_40 : decode cX4_stored 40 = .ok (.invokevirtual 82, 3) := by decide +kernel
theorem dX4_stored_43 : decode cX4_stored 43 = .ok (.iadd, 1) := by decide +kernel
theorem dX4_stored_44 : decode cX4_stored 44 = .ok (.ireturn, 1) := by decide +kernel
theorem dX5_init_0 : decode cX5_init 0 = .ok (.aload_n 0, 1) := by decide +kernel
theorem dX5_init_1 : decode cX5_init 1 = .ok (.aload_n 1, 1) := by decide +kernel
theorem dX5_init_2 : decode cX5_init 2 = .ok (.invokespecial 3, 3) := by decide +kernel
theorem dX5_init_5 : decode cX5_init 5 = .ok (.aload_n 0, 1) := by decide +kernel
theorem dX5_init_6 : decode cX5_init 6 = .ok (.iload_n 2, 1) := by decide +kernel
theorem dX5_init_7 : decode cX5_init 7 = .ok (.putfield 9, 3) := by decide +kernel
theorem dX5_init_10 : decode cX5_init 10 = .ok (.return_, 1) := by decide +kernel
theorem dX5_meet_0 : decode cX5_meet 0 = .ok (.aload_n 0, 1) := by decide +kernel
theorem dX5_meet_1 : decode cX5_meet 1 = .ok (.getfield 15, 3) := by decide +kernel
theorem dX5_meet_4 : decode cX5_meet 4 = .ok (.getfield 19, 3) := by decide +kernel
theorem dX5_meet_7 : decode cX5_meet 7 = .ok (.iload_n 1, 1) := by decide +kernel
theorem dX5_meet_8 : decode cX5_meet 8 = .ok (.iaload, 1) := by decide +kernel
theorem dX5_meet_9 : decode cX5_meet 9 = .ok (.istore_n 3, 1) := by decide +kernel
theorem dX5_meet_10 : decode cX5_meet 10 = .ok (.aload_n 0, 1) := by decide +kernel
theorem dX5_meet_11 : decode cX5_meet 11 = .ok (.getfield 9, 3) := by decide +kernel
theorem dX5_meet_14 : decode cX5_meet 14 = .ok (.ifCond .eq 12, 3) := by decide +kernel
theorem dX5_meet_17 : decode cX5_meet 17 = .ok (.iload_n 2, 1) := by decide +kernel
theorem dX5_meet_18 : decode cX5_meet 18 = .ok (.iconst (-1), 1) := by decide +kernel
theorem dX5_meet_19 : decode cX5_meet 19 = .ok (.if_icmp .eq 7, 3) := by decide +kernel
theorem dX5_meet_22 : decode cX5_meet 22 = .ok (.iconst 1, 1) := by decide +kernel
theorem dX5_meet_23 : decode cX5_meet 23 = .ok (.goto 4, 3) := by decide +kernel
theorem dX5_meet_26 : decode cX5_meet 26 = .ok (.iconst 0, 1) := by decide +kernel
theorem dX5_meet_27 : decode cX5_meet 27 = .ok (.istore 4, 2) := by decide +kernel
theorem dX5_meet_29 : decode cX5_meet 29 = .ok (.aload_n 0, 1) := by decide +kernel
theorem dX5_meet_30 : decode cX5_meet 30 = .ok (.iload 4, 2) := by decide +kernel
theorem dX5_meet_32 : decode cX5_meet 32 = .ok (.ifCond .eq 7, 3) := by decide +kernel
theorem dX5_meet_35 : decode cX5_meet 35 = .ok (.iload_n 2, 1) := by decide +kernel
theorem dX5_meet_36 : decode cX5_meet 36 = .ok (.goto 8, 3) := by decide +kernel
theorem dX5_meet_39 : decode cX5_meet 39 = .ok (.aload_n 0, 1) := by decide +kernel
theorem dX5_meet_40 : decode cX5_meet 40 = .ok (.iload_n 3, 1) := by decide +kernel
theorem dX5_meet_41 : decode cX5_meet 41 = .ok (.invokevirtual 25, 3) := by decide +kernel
theorem dX5_meet_44 : decode cX5_meet 44 = .ok (.iload_n 3, 1) := by decide +kernel
theorem dX5_meet_45 : decode cX5_meet 45 = .ok (.invokevirtual 29, 3) := by decide +kernel
theorem dX5_meet_48 : decode cX5_meet 48 = .ok (.return_, 1) := by decide +kernel
theorem dX5_nearestTo_0 : decode cX5_nearestTo 0 = .ok (.iconst 0, 1) := by decide +kernel
theorem dX5_nearestTo_1 : decode cX5_nearestTo 1 = .ok (.istore_n 2, 1) := by decide +kernel
theorem dX5_nearestTo_2 : decode cX5_nearestTo 2 = .ok (.iconst 1, 1) := by decide +kernel
theorem dX5_nearestTo_3 : decode cX5_nearestTo 3 = .ok (.istore_n 3, 1) := by decide +kernel
theorem dX5_nearestTo_4 : decode cX5_nearestTo 4 = .ok (.iload_n 3, 1) := by decide +kernel
theorem dX5_nearestTo_5 : decode cX5_nearestTo 5 = .ok (.aload_n 0, 1) := by decide +kernel
theorem dX5_nearestTo_6 : decode cX5_nearestTo 6 = .ok (.getfield 15, 3) := by decide +kernel
theorem dX5_nearestTo_9 : decode cX5_nearestTo 9 = .ok (.getfield 33, 3) := by decide +kernel
theorem dX5_nearestTo_12 : decode cX5_nearestTo 12 = .ok (.if_icmp .ge 36, 3) := by decide +kernel
theorem dX5_nearestTo_15 : decode cX5_nearestTo 15 = .ok (.aload_n 0, 1) := by decide +kernel
theorem dX5_nearestTo_16 : decode cX5_nearestTo 16 = .ok (.getfield 37, 3) := by decide +kernel
theorem dX5_nearestTo_19 : decode cX5_nearestTo 19 = .ok (.iload_n 3, 1) := by decide +kernel
theorem dX5_nearestTo_20 : decode cX5_nearestTo 20 = .ok (.iaload, 1) := by decide +kernel
theorem dX5_nearestTo_21 : decode cX5_nearestTo 21 = .ok (.iload_n 1, 1) := by decide +kernel
theorem dX5_nearestTo_22 : decode cX5_nearestTo 22 = .ok (.isub, 1) := by decide +kernel
theorem dX5_nearestTo_23 : decode cX5_nearestTo 23 = .ok (.invokestatic 40, 3) := by decide +kernel
theorem dX5_nearestTo_26 : decode cX5_nearestTo 26 = .ok (.aload_n 0, 1) := by decide +kernel
theorem dX5_nearestTo_27 : decode cX5_nearestTo 27 = .ok (.getfield 37, 3) := by decide +kernel
theorem dX5_nearestTo_30 : decode cX5_nearestTo 30 = .ok (.iload_n 2, 1) := by decide +kernel
theorem dX5_nearestTo_31 : decode cX5_nearestTo 31 = .ok (.iaload, 1) := by decide +kernel
theorem dX5_nearestTo_32 : decode cX5_nearestTo 32 = .ok (.iload_n 1, 1) := by decide +kernel
theorem dX5_nearestTo_33 : decode cX5_nearestTo 33 = .ok (.isub, 1) := by decide +kernel
theorem dX5_nearestTo_34 : decode cX5_nearestTo 34 = .ok (.invokestatic 40, 3) := by decide +kernel
theorem dX5_nearestTo_37 : decode cX5_nearestTo 37 = .ok (.if_icmp .ge 5, 3) := by decide +kernel
theorem dX5_nearestTo_40 : decode cX5_nearestTo 40 = .ok (.iload_n 3, 1) := by decide +kernel
theorem dX5_nearestTo_41 : decode cX5_nearestTo 41 = .ok (.istore_n 2, 1) := by decide +kernel
theorem dX5_nearestTo_42 : decode cX5_nearestTo 42 = .ok (.iinc 3 1, 3) := by decide +kernel
theorem dX5_nearestTo_45 : decode cX5_nearestTo 45 = .ok (.goto (-41), 3) := by decide +kernel
theorem dX5_nearestTo_48 : decode cX5_nearestTo 48 = .ok (.iload_n 2, 1) := by decide +kernel
theorem dX5_nearestTo_49 : decode cX5_nearestTo 49 = .ok (.ireturn, 1) := by decide +kernel
theorem dX6_init_0 : decode cX6_init 0 = .ok (.aload_n 0, 1) := by decide +kernel
theorem dX6_init_1 : decode cX6_init 1 = .ok (.invokespecial 3, 3) := by decide +kernel
theorem dX6_init_4 : decode cX6_init 4 = .ok (.aload_n 0, 1) := by decide +kernel
theorem dX6_init_5 : decode cX6_init 5 = .ok (.bipush 40, 2) := by decide +kernel
theorem dX6_init_7 : decode cX6_init 7 = .ok (.newarray .int, 2) := by decide +kernel
theorem dX6_init_9 : decode cX6_init 9 = .ok (.putfield 9, 3) := by decide +kernel
theorem dX6_init_12 : decode cX6_init 12 = .ok (.aload_n 0, 1) := by decide +kernel
theorem dX6_init_13 : decode cX6_init 13 = .ok (.bipush 40, 2) := by decide +kernel
theorem dX6_init_15 : decode cX6_init 15 = .ok (.newarray .int, 2) := by decide +kernel
theorem dX6_init_17 : decode cX6_init 17 = .ok (.putfield 15, 3) := by decide +kernel
theorem dX6_init_20 : decode cX6_init 20 = .ok (.return_, 1) := by decide +kernel
theorem dX6_read_0 : decode cX6_read 0 = .ok (.aload_n 0, 1) := by decide +kernel
theorem dX6_read_1 : decode cX6_read 1 = .ok (.iconst 0, 1) := by decide +kernel
theorem dX6_read_2 : decode cX6_read 2 = .ok (.putfield 18, 3) := by decide +kernel
theorem dX6_read_5 : decode cX6_read 5 = .ok (.aload_n 1, 1) := by decide +kernel
theorem dX6_read_6 : decode cX6_read 6 = .ok (.iconst 0, 1) := by decide +kernel
theorem dX6_read_7 : decode cX6_read 7 = .ok (.invokevirtual 22, 3) := by decide +kernel
theorem dX6_read_10 : decode cX6_read 10 = .ok (.ifCond .eq 5, 3) := by decide +kernel
theorem dX6_read_13 : decode cX6_read 13 = .ok (.iconst 0, 1) := by decide +kernel
theorem dX6_read_14 : decode cX6_read 14 = .ok (.ireturn, 1) := by decide +kernel
theorem dX6_read_15 : decode cX6_read 15 = .ok (.iconst 0, 1) := by decide +kernel
theorem dX6_read_16 : decode cX6_read 16 = .ok (.istore_n 3, 1) := by decide +kernel
theorem dX6_read_17 : decode cX6_read 17 = .ok (.iload_n 3, 1) := by decide +kernel
theorem dX6_read_18 : decode cX6_read 18 = .ok (.aload_n 1, 1) := by decide +kernel
theorem dX6_read_19 : decode cX6_read 19 = .ok (.getfield 28, 3) := by decide +kernel
theorem dX6_read_22 : decode cX6_read 22 = .ok (.iconst 0, 1) := by decide +kernel
theorem dX6_read_23 : decode cX6_read 23 = .ok (.iaload, 1) := by decide +kernel
theorem dX6_read_24 : decode cX6_read 24 = .ok (.if_icmp .ge 73, 3) := by decide +kernel
theorem dX6_read_27 : decode cX6_read 27 = .ok (.aload_n 1, 1) := by decide +kernel
theorem dX6_read_28 : decode cX6_read 28 = .ok (.getfield 31, 3) := by decide +kernel
theorem dX6_read_31 : decode cX6_read 31 = .ok (.iconst 0, 1) := by decide +kernel
theorem dX6_read_32 : decode cX6_read 32 = .ok (.aaload, 1) := by decide +kernel
theorem dX6_read_33 : decode cX6_read 33 = .ok (.iload_n 3, 1) := by decide +kernel
theorem dX6_read_34 : decode cX6_read 34 = .ok (.iaload, 1) := by decide +kernel
theorem dX6_read_35 : decode cX6_read 35 = .ok (.istore 4, 2) := by decide +kernel
theorem dX6_read_37 : decode cX6_read 37 = .ok (.iload 4, 2) := by decide +kernel
theorem dX6_read_39 : decode cX6_read 39 = .ok (.iconst 0, 1) := by decide +kernel
theorem dX6_read_40 : decode cX6_read 40 = .ok (.aload_n 2, 1) := by decide +kernel
theorem dX6_read_41 : decode cX6_read 41 = .ok (.getfield 35, 3) := by decide +kernel
theorem dX6_read_44 : decode cX6_read 44 = .ok (.iconst 1, 1) := by decide +kernel
theorem dX6_read_45 : decode cX6_read 45 = .ok (.isub, 1) := by decide +kernel
theorem dX6_read_46 : decode cX6_read 46 = .ok (.invokestatic 40, 3) := by decide +kernel
theorem dX6_read_49 : decode cX6_read 49 = .ok (.ifCond .eq 42, 3) := by decide +kernel
theorem dX6_read_52 : decode cX6_read 52 = .ok (.aload_n 0, 1) := by decide +kernel
theorem dX6_read_53 : decode cX6_read 53 = .ok (.getfield 9, 3) := by decide +kernel
theorem dX6_read_56 : decode cX6_read 56 = .ok (.aload_n 0, 1) := by decide +kernel
theorem dX6_read_57 : decode cX6_read 57 = .ok (.getfield 18, 3) := by decide +kernel
theorem dX6_read_60 : decode cX6_read 60 = .ok (.iload 4, 2) := by decide +kernel
theorem dX6_read_62 : decode cX6_read 62 = .ok (.iastore, 1) := by decide +kernel
theorem dX6_read_63 : decode cX6_read 63 = .ok (.aload_n 0, 1) := by decide +kernel
theorem dX6_read_64 : decode cX6_read 64 = .ok (.getfield 15, 3) := by decide +kernel
theorem dX6_read_67 : decode cX6_read 67 = .ok (.aload_n 0, 1) := by decide +kernel
theorem dX6_read_68 : decode cX6_read 68 = .ok (.getfield 18, 3) := by decide +kernel
theorem dX6_read_71 : decode cX6_read 71 = .ok (.aload_n 1, 1) := by decide +kernel
theorem dX6_read_72 : decode cX6_read 72 = .ok (.aload_n 2, 1) := by decide +kernel
theorem dX6_read_73 : decode cX6_read 73 = .ok (.aload_n 0, 1) := by decide +kernel
theorem dX6_read_74 : decode cX6_read 74 = .ok (.getfield 18, 3) := by decide +kernel
theorem dX6_read_77 : decode cX6_read 77 = .ok (.invokestatic 44, 3) := by decide +kernel
theorem dX6_read_80 : decode cX6_read 80 = .ok (.iastore, 1) := by decide +kernel
theorem dX6_read_81 : decode cX6_read 81 = .ok (.aload_n 0, 1) := by decide +kernel
theorem dX6_read_82 : decode cX6_read 82 = .ok (.dup, 1) := by decide +kernel
theorem dX6_read_83 : decode cX6_read 83 = .ok (.getfield 18, 3) := by decide +kernel
theorem dX6_read_86 : decode cX6_read 86 = .ok (.iconst 1, 1) := by decide +kernel
theorem dX6_read_87 : decode cX6_read 87 = .ok (.iadd, 1) := by decide +kernel
theorem dX6_read_88 : decode cX6_read 88 = .ok (.putfield 18, 3) := by decide +kernel
theorem dX6_read_91 : decode cX6_read 91 = .ok (.iinc 3 1, 3) := by decide +kernel
theorem dX6_read_94 : decode cX6_read 94 = .ok (.goto (-77), 3) := by decide +kernel
theorem dX6_read_97 : decode cX6_read 97 = .ok (.iconst 1, 1) := by decide +kernel
theorem dX6_read_98 : decode cX6_read 98 = .ok (.ireturn, 1) := by decide +kernel
theorem dX6_hintAt_0 : decode cX6_hintAt 0 = .ok (.aload_n 0, 1) := by decide +kernel
theorem dX6_hintAt_1 : decode cX6_hintAt 1 = .ok (.iconst 1, 1) := by decide +kernel
theorem dX6_hintAt_2 : decode cX6_hintAt 2 = .ok (.invokevirtual 22, 3) := by decide +kernel
theorem dX6_hintAt_5 : decode cX6_hintAt 5 = .ok (.ifCond .ne 13, 3) := by decide +kernel
theorem dX6_hintAt_8 : decode cX6_hintAt 8 = .ok (.iload_n 2, 1) := by decide +kernel
theorem dX6_hintAt_9 : decode cX6_hintAt 9 = .ok (.aload_n 0, 1) := by decide +kernel
theorem dX6_hintAt_10 : decode cX6_hintAt 10 = .ok (.getfield 28, 3) := by decide +kernel
theorem dX6_hintAt_13 : decode cX6_hintAt 13 = .ok (.iconst 1, 1) := by decide +kernel
theorem dX6_hintAt_14 : decode cX6_hintAt 14 = .ok (.iaload, 1) := by decide +kernel
theorem dX6_hintAt_15 : decode cX6_hintAt 15 = .ok (.if_icmp .lt 5, 3) := by decide +kernel
theorem dX6_hintAt_18 : decode cX6_hintAt 18 = .ok (.iconst (-1), 1) := by decide +kernel
theorem dX6_hintAt_19 : decode cX6_hintAt 19 = .ok (.ireturn, 1) := by decide +kernel
theorem dX6_hintAt_20 : decode cX6_hintAt 20 = .ok (.aload_n 0, 1) := by decide +kernel
theorem dX6_hintAt_21 : decode cX6_hintAt 21 = .ok (.getfield 31, 3) := by decide +kernel
theorem dX6_hintAt_24 : decode cX6_hintAt 24 = .ok (.iconst 1, 1) := by decide +kernel
theorem dX6_hintAt_25 : decode cX6_hintAt 25 = .ok (.aaload, 1) := by decide +kernel
theorem dX6_hintAt_26 : decode cX6_hintAt 26 = .ok (.iload_n 2, 1) := by decide +kernel
theorem dX6_hintAt_27 : decode cX6_hintAt 27 = .ok (.iaload, 1) := by decide +kernel
theorem dX6_hintAt_28 : decode cX6_hintAt 28 = .ok (.istore_n 3, 1) := by decide +kernel
theorem dX6_hintAt_29 : decode cX6_hintAt 29 = .ok (.iload_n 3, 1) := by decide +kernel
theorem dX6_hintAt_30 : decode cX6_hintAt 30 = .ok (.iconst 0, 1) := by decide +kernel
theorem dX6_hintAt_31 : decode cX6_hintAt 31 = .ok (.aload_n 1, 1) := by decide +kernel
theorem dX6_hintAt_32 : decode cX6_hintAt 32 = .ok (.getfield 48, 3) := by decide +kernel
theorem dX6_hintAt_35 : decode cX6_hintAt 35 = .ok (.iconst 1, 1) := by decide +kernel
theorem dX6_hintAt_36 : decode cX6_hintAt 36 = .ok (.isub, 1) := by decide +kernel
theorem dX6_hintAt_37 : decode cX6_hintAt 37 = .ok (.invokestatic 40, 3) := by decide +kernel
theorem dX6_hintAt_40 : decode cX6_hintAt 40 = .ok (.ifCond .eq 7, 3) := by decide +kernel
theorem dX6_hintAt_43 : decode cX6_hintAt 43 = .ok (.iload_n 3, 1) := by decide +kernel
theorem dX6_hintAt_44 : decode cX6_hintAt 44 = .ok (.goto 4, 3) := by decide +kernel
theorem dX6_hintAt_47 : decode cX6_hintAt 47 = .ok (.iconst (-1), 1) := by decide +kernel
theorem dX6_hintAt_48 : decode cX6_hintAt 48 = .ok (.ireturn, 1) := by decide +kernel
theorem dX6_lead_0 : decode cX6_lead 0 = .ok (.iload_n 2, 1) := by decide +kernel
theorem dX6_lead_1 : decode cX6_lead 1 = .ok (.aload_n 0, 1) := by decide +kernel
theorem dX6_lead_2 : decode cX6_lead 2 = .ok (.getfield 18, 3) := by decide +kernel
theorem dX6_lead_5 : decode cX6_lead 5 = .ok (.invokestatic 51, 3) := by decide +kernel
theorem dX6_lead_8 : decode cX6_lead 8 = .ok (.istore_n 3, 1) := by decide +kernel
theorem dX6_lead_9 : decode cX6_lead 9 = .ok (.aload_n 1, 1) := by decide +kernel
theorem dX6_lead_10 : decode cX6_lead 10 = .ok (.invokevirtual 57, 3) := by decide +kernel
theorem dX6_lead_13 : decode cX6_lead 13 = .ok (.iconst 0, 1) := by decide +kernel
theorem dX6_lead_14 : decode cX6_lead 14 = .ok (.istore 4, 2) := by decide +kernel
theorem dX6_lead_16 : decode cX6_lead 16 = .ok (.iload 4, 2) := by decide +kernel
theorem dX6_lead_18 : decode cX6_lead 18 = .ok (.iload_n 3, 1) := by decide +kernel
theorem dX6_lead_19 : decode cX6_lead 19 = .ok (.if_icmp .ge 27, 3) := by decide +kernel
theorem dX6_lead_22 : decode cX6_lead 22 = .ok (.aload_n 1, 1) := by decide +kernel
theorem dX6_lead_23 : decode cX6_lead 23 = .ok (.aload_n 0, 1) := by decide +kernel
theorem dX6_lead_24 : decode cX6_lead 24 = .ok (.getfield 9, 3) := by decide +kernel
theorem dX6_lead_27 : decode cX6_lead 27 = .ok (.iload 4, 2) := by decide +kernel
theorem dX6_lead_29 : decode cX6_lead 29 = .ok (.iaload, 1) := by decide +kernel
theorem dX6_lead_30 : decode cX6_lead 30 = .ok (.aload_n 0, 1) := by decide +kernel
theorem dX6_lead_31 : decode cX6_lead 31 = .ok (.getfield 15, 3) := by decide +kernel
theorem dX6_lead_34 : decode cX6_lead 34 = .ok (.iload 4, 2) := by decide +kernel
theorem dX6_lead_36 : decode cX6_lead 36 = .ok (.iaload, 1) := by decide +kernel
theorem dX6_lead_37 : decode cX6_lead 37 = .ok (.invokevirtual 62, 3) := by decide +kernel
theorem dX6_lead_40 : decode cX6_lead 40 = .ok (.iinc 4 1, 3) := by decide +kernel
theorem dX6_lead_43 : decode cX6_lead 43 = .ok (.goto (-27), 3) := by decide +kernel
theorem dX6_lead_46 : decode cX6_lead 46 = .ok (.aload_n 1, 1) := by decide +kernel
theorem dX6_lead_47 : decode cX6_lead 47 = .ok (.getfield 66, 3) := by decide +kernel
theorem dX6_lead_50 : decode cX6_lead 50 = .ok (.ireturn, 1) := by decide +kernel
theorem dX7_init_0 : decode cX7_init 0 = .ok (.aload_n 0, 1) := by decide +kernel
theorem dX7_init_1 : decode cX7_init 1 = .ok (.invokespecial 3, 3) := by decide +kernel
theorem dX7_init_4 : decode cX7_init 4 = .ok (.aload_n 0, 1) := by decide +kernel
theorem dX7_init_5 : decode cX7_init 5 = .ok (.iconst 3, 1) := by decide +kernel
theorem dX7_init_6 : decode cX7_init 6 = .ok (.newarray .int, 2) := by decide +kernel
theorem dX7_init_8 : decode cX7_init 8 = .ok (.putfield 9, 3) := by decide +kernel
theorem dX7_init_11 : decode cX7_init 11 = .ok (.aload_n 0, 1) := by decide +kernel
theorem dX7_init_12 : decode cX7_init 12 = .ok (.iconst (-1), 1) := by decide +kernel
theorem dX7_init_13 : decode cX7_init 13 = .ok (.putfield 15, 3) := by decide +kernel
theorem dX7_init_16 : decode cX7_init 16 = .ok (.aload_n 0, 1) := by decide +kernel
theorem dX7_init_17 : decode cX7_init 17 = .ok (.aload_n 1, 1) := by decide +kernel
theorem dX7_init_18 : decode cX7_init 18 = .ok (.putfield 19, 3) := by decide +kernel
theorem dX7_init_21 : decode cX7_init 21 = .ok (.return_, 1) := by decide +kernel
theorem dX7_begin_0 : decode cX7_begin 0 = .ok (.aload_n 0, 1) := by decide +kernel
theorem dX7_begin_1 : decode cX7_begin 1 = .ok (.invokevirtual 23, 3) := by decide +kernel
theorem dX7_begin_4 : decode cX7_begin 4 = .ok (.return_, 1) := by decide +kernel
theorem dX7_standAtStart_0 : decode cX7_standAtStart 0 = .ok (.iconst 0, 1) := by decide +kernel
theorem dX7_standAtStart_1 : decode cX7_standAtStart 1 = .ok (.istore_n 1, 1) := by decide +kernel
theorem dX7_standAtStart_2 : decode cX7_standAtStart 2 = .ok (.iload_n 1, 1) := by decide +kernel
theorem dX7_standAtStart_3 : decode cX7_standAtStart 3 = .ok (.iconst 3, 1) := by decide +kernel
theorem dX7_standAtStart_4 : decode cX7_standAtStart 4 = .ok (.if_icmp .ge 32, 3) := by decide +kernel
theorem dX7_standAtStart_7 : decode cX7_standAtStart 7 = .ok (.aload_n 0, 1) := by decide +kernel
theorem dX7_standAtStart_8 : decode cX7_standAtStart 8 = .ok (.getfield 9, 3) := by decide +kernel
theorem dX7_standAtStart_11 : decode cX7_standAtStart 11 = .ok (.iload_n 1, 1) := by decide +kernel
theorem dX7_standAtStart_12 : decode cX7_standAtStart 12 = .ok (.aload_n 0, 1) := by decide +kernel
theorem dX7_standAtStart_13 : decode cX7_standAtStart 13 = .ok (.getfield 19, 3) := by decide +kernel
theorem dX7_standAtStart_16 : decode cX7_standAtStart 16 = .ok (.getfield 26, 3) := by decide +kernel
theorem dX7_standAtStart_19 : decode cX7_standAtStart 19 = .ok (.aload_n 0, 1) := by decide +kernel
theorem dX7_standAtStart_20 : decode cX7_standAtStart 20 = .ok (.getfield 19, 3) := by decide +kernel
theorem dX7_standAtStart_23 : decode cX7_standAtStart 23 = .ok (.getfield 31, 3) := by decide +kernel
theorem dX7_standAtStart_26 : decode cX7_standAtStart 26 = .ok (.iload_n 1, 1) := by decide +kernel
theorem dX7_standAtStart_27 : decode cX7_standAtStart 27 = .ok (.iaload, 1) := by decide +kernel
theorem dX7_standAtStart_28 : decode cX7_standAtStart 28 = .ok (.iaload, 1) := by decide +kernel
theorem dX7_standAtStart_29 : decode cX7_standAtStart 29 = .ok (.iastore, 1) := by decide +kernel
theorem dX7_standAtStart_30 : decode cX7_standAtStart 30 = .ok (.iinc 1 1, 3) := by decide +kernel
theorem dX7_standAtStart_33 : decode cX7_standAtStart 33 = .ok (.goto (-31), 3) := by decide +kernel
theorem dX7_standAtStart_36 : decode cX7_standAtStart 36 = .ok (.aload_n 0, 1) := by decide +kernel
theorem dX7_standAtStart_37 : decode cX7_standAtStart 37 = .ok (.iconst 0, 1) := by decide +kernel
theorem dX7_standAtStart_38 : decode cX7_standAtStart 38 = .ok (.putfield 34, 3) := by decide +kernel
theorem dX7_standAtStart_41 : decode cX7_standAtStart 41 = .ok (.aload_n 0, 1) := by decide +kernel
theorem dX7_standAtStart_42 : decode cX7_standAtStart 42 = .ok (.iconst (-1), 1) := by decide +kernel
theorem dX7_standAtStart_43 : decode cX7_standAtStart 43 = .ok (.putfield 15, 3) := by decide +kernel
theorem dX7_standAtStart_46 : decode cX7_standAtStart 46 = .ok (.return_, 1) := by decide +kernel
theorem dX7_send_0 : decode cX7_send 0 = .ok (.aload_n 0, 1) := by decide +kernel
theorem dX7_send_1 : decode cX7_send 1 = .ok (.dup, 1) := by decide +kernel
theorem dX7_send_2 : decode cX7_send 2 = .ok (.getfield 34, 3) := by decide +kernel
theorem dX7_send_5 : decode cX7_send 5 = .ok (.aload_n 0, 1) := by decide +kernel
theorem dX7_send_6 : decode cX7_send 6 = .ok (.getfield 9, 3) := by decide +kernel
theorem dX7_send_9 : decode cX7_send 9 = .ok (.iload_n 1, 1) := by decide +kernel
theorem dX7_send_10 : decode cX7_send 10 = .ok (.iaload, 1) := by decide +kernel
theorem dX7_send_11 : decode cX7_send 11 = .ok (.iload_n 2, 1) := by decide +kernel
theorem dX7_send_12 : decode cX7_send 12 = .ok (.isub, 1) := by decide +kernel
theorem dX7_send_13 : decode cX7_send 13 = .ok (.invokestatic 37, 3) := by decide +kernel
theorem dX7_send_16 : decode cX7_send 16 = .ok (.iadd, 1) := by decide +kernel
theorem dX7_send_17 : decode cX7_send 17 = .ok (.putfield 34, 3) := by decide +kernel
theorem dX7_send_20 : decode cX7_send 20 = .ok (.aload_n 0, 1) := by decide +kernel
theorem dX7_send_21 : decode cX7_send 21 = .ok (.getfield 9, 3) := by decide +kernel
theorem dX7_send_24 : decode cX7_send 24 = .ok (.iload_n 1, 1) := by decide +kernel
theorem dX7_send_25 : decode cX7_send 25 = .ok (.iload_n 2, 1) := by decide +kernel
theorem dX7_send_26 : decode cX7_send 26 = .ok (.iastore, 1) := by decide +kernel
theorem dX7_send_27 : decode cX7_send 27 = .ok (.aload_n 0, 1) := by decide +kernel
theorem dX7_send_28 : decode cX7_send 28 = .ok (.iload_n 1, 1) := by decide +kernel
theorem dX7_send_29 : decode cX7_send 29 = .ok (.putfield 15, 3) := by decide +kernel
theorem dX7_send_32 : decode cX7_send 32 = .ok (.return_, 1) := by decide +kernel
theorem dX8_init_0 : decode cX8_init 0 = .ok (.aload_n 0, 1) := by decide +kernel
theorem dX8_init_1 : decode cX8_init 1 = .ok (.invokespecial 3, 3) := by decide +kernel
theorem dX8_init_4 : decode cX8_init 4 = .ok (.aload_n 0, 1) := by decide +kernel
theorem dX8_init_5 : decode cX8_init 5 = .ok (.iconst 4, 1) := by decide +kernel
theorem dX8_init_6 : decode cX8_init 6 = .ok (.bipush 40, 2) := by decide +kernel
theorem dX8_init_8 : decode cX8_init 8 = .ok (.multianewarray 9 2, 4) := by decide +kernel
theorem dX8_init_12 : decode cX8_init 12 = .ok (.putfield 11, 3) := by decide +kernel
theorem dX8_init_15 : decode cX8_init 15 = .ok (.aload_n 0, 1) := by decide +kernel
theorem dX8_init_16 : decode cX8_init 16 = .ok (.iconst 4, 1) := by decide +kernel
theorem dX8_init_17 : decode cX8_init 17 = .ok (.newarray .int, 2) := by decide +kernel
theorem dX8_init_19 : decode cX8_init 19 = .ok (.dup, 1) := by decide +kernel
theorem dX8_init_20 : decode cX8_init 20 = .ok (.iconst 0, 1) := by decide +kernel
theorem dX8_init_21 : decode cX8_init 21 = .ok (.iconst (-1), 1) := by decide +kernel
theorem dX8_init_22 : decode cX8_init 22 = .ok (.iastore, 1) := by decide +kernel
theorem dX8_init_23 : decode cX8_init 23 = .ok (.dup, 1) := by decide +kernel
theorem dX8_init_24 : decode cX8_init 24 = .ok (.iconst 1, 1) := by decide +kernel
theorem dX8_init_25 : decode cX8_init 25 = .ok (.iconst (-1), 1) := by decide +kernel
theorem dX8_init_26 : decode cX8_init 26 = .ok (.iastore, 1) := by decide +kernel
theorem dX8_init_27 : decode cX8_init 27 = .ok (.dup, 1) := by decide +kernel
theorem dX8_init_28 : decode cX8_init 28 = .ok (.iconst 2, 1) := by decide +kernel
theorem dX8_init_29 : decode cX8_init 29 = .ok (.iconst (-1), 1) := by decide +kernel
theorem dX8_init_30 : decode cX8_init 30 = .ok (.iastore, 1) := by decide +kernel
theorem dX8_init_31 : decode cX8_init 31 = .ok (.dup, 1) := by decide +kernel
theorem dX8_init_32 : decode cX8_init 32 = .ok (.iconst 3, 1) := by decide +kernel
theorem dX8_init_33 : decode cX8_init 33 = .ok (.iconst (-1), 1) := by decide +kernel
theorem dX8_init_34 : decode cX8_init 34 = .ok (.iastore, 1) := by decide +kernel
theorem dX8_init_35 : decode cX8_init 35 = .ok (.putfield 16, 3) := by decide +kernel
theorem dX8_init_38 : decode cX8_init 38 = .ok (.aload_n 0, 1) := by decide +kernel
theorem dX8_init_39 : decode cX8_init 39 = .ok (.iconst 4, 1) := by decide +kernel
theorem dX8_init_40 : decode cX8_init 40 = .ok (.newarray .int, 2) := by decide +kernel
theorem dX8_init_42 : decode cX8_init 42 = .ok (.putfield 20, 3) := by decide +kernel
theorem dX8_init_45 : decode cX8_init 45 = .ok (.aload_n 0, 1) := by decide +kernel
theorem dX8_init_46 : decode cX8_init 46 = .ok (.iconst 0, 1) := by decide +kernel
theorem dX8_init_47 : decode cX8_init 47 = .ok (.putfield 23, 3) := by decide +kernel
theorem dX8_init_50 : decode cX8_init 50 = .ok (.return_, 1) := by decide +kernel
theorem dX8_found_0 : decode cX8_found 0 = .ok (.aload_n 0, 1) := by decide +kernel
theorem dX8_found_1 : decode cX8_found 1 = .ok (.iload_n 1, 1) := by decide +kernel
theorem dX8_found_2 : decode cX8_found 2 = .ok (.putfield 23, 3) := by decide +kernel
theorem dX8_found_5 : decode cX8_found 5 = .ok (.bipush (-10), 2) := by decide +kernel
theorem dX8_found_7 : decode cX8_found 7 = .ok (.iload_n 1, 1) := by decide +kernel
theorem dX8_found_8 : decode cX8_found 8 = .ok (.isub, 1) := by decide +kernel
theorem dX8_found_9 : decode cX8_found 9 = .ok (.ireturn, 1) := by decide +kernel
theorem dX8_isLost_0 : decode cX8_isLost 0 = .ok (.aload_n 0, 1) := by decide +kernel
theorem dX8_isLost_1 : decode cX8_isLost 1 = .ok (.getfield 16, 3) := by decide +kernel
theorem dX8_isLost_4 : decode cX8_isLost 4 = .ok (.iload_n 1, 1) := by decide +kernel
theorem dX8_isLost_5 : decode cX8_isLost 5 = .ok (.iaload, 1) := by decide +kernel
theorem dX8_isLost_6 : decode cX8_isLost 6 = .ok (.iconst (-1), 1) := by decide +kernel
theorem dX8_isLost_7 : decode cX8_isLost 7 = .ok (.if_icmp .ne 7, 3) := by decide +kernel
theorem dX8_isLost_10 : decode cX8_isLost 10 = .ok (.iconst 1, 1) := by decide +kernel
theorem dX8_isLost_11 : decode cX8_isLost 11 = .ok (.goto 4, 3) := by decide +kernel
theorem dX8_isLost_14 : decode cX8_isLost 14 = .ok (.iconst 0, 1) := by decide +kernel
theorem dX8_isLost_15 : decode cX8_isLost 15 = .ok (.ireturn, 1) := by decide +kernel
theorem dX8_keptCount_0 : decode cX8_keptCount 0 = .ok (.iconst 0, 1) := by decide +kernel
theorem dX8_keptCount_1 : decode cX8_keptCount 1 = .ok (.istore_n 1, 1) := by decide +kernel
theorem dX8_keptCount_2 : decode cX8_keptCount 2 = .ok (.iconst 0, 1) := by decide +kernel
theorem dX8_keptCount_3 : decode cX8_keptCount 3 = .ok (.istore_n 2, 1) := by decide +kernel
theorem dX8_keptCount_4 : decode cX8_keptCount 4 = .ok (.iload_n 2, 1) := by decide +kernel
theorem dX8_keptCount_5 : decode cX8_keptCount 5 = .ok (.iconst 4, 1) := by decide +kernel
theorem dX8_keptCount_6 : decode cX8_keptCount 6 = .ok (.if_icmp .ge 20, 3) := by decide +kernel
theorem dX8_keptCount_9 : decode cX8_keptCount 9 = .ok (.aload_n 0, 1) := by decide +kernel
theorem dX8_keptCount_10 : decode cX8_keptCount 10 = .ok (.iload_n 2, 1) := by decide +kernel
theorem dX8_keptCount_11 : decode cX8_keptCount 11 = .ok (.invokevirtual 27, 3) := by decide +kernel
theorem dX8_keptCount_14 : decode cX8_keptCount 14 = .ok (.ifCond .ne 6, 3) := by decide +kernel
theorem dX8_keptCount_17 : decode cX8_keptCount 17 = .ok (.iinc 1 1, 3) := by decide +kernel
theorem dX8_keptCount_20 : decode cX8_keptCount 20 = .ok (.iinc 2 1, 3) := by decide +kernel
theorem dX8_keptCount_23 : decode cX8_keptCount 23 = .ok (.goto (-19), 3) := by decide +kernel
theorem dX8_keptCount_26 : decode cX8_keptCount 26 = .ok (.iload_n 1, 1) := by decide +kernel
theorem dX8_keptCount_27 : decode cX8_keptCount 27 = .ok (.ireturn, 1) := by decide +kernel
theorem dX8_renew_0 : decode cX8_renew 0 = .ok (.aload_n 0, 1) := by decide +kernel
theorem dX8_renew_1 : decode cX8_renew 1 = .ok (.getfield 16, 3) := by decide +kernel
theorem dX8_renew_4 : decode cX8_renew 4 = .ok (.iload_n 1, 1) := by decide +kernel
theorem dX8_renew_5 : decode cX8_renew 5 = .ok (.iload_n 2, 1) := by decide +kernel
theorem dX8_renew_6 : decode cX8_renew 6 = .ok (.iastore, 1) := by decide +kernel
theorem dX8_renew_7 : decode cX8_renew 7 = .ok (.aload_n 0, 1) := by decide +kernel
theorem dX8_renew_8 : decode cX8_renew 8 = .ok (.getfield 20, 3) := by decide +kernel
theorem dX8_renew_11 : decode cX8_renew 11 = .ok (.iload_n 1, 1) := by decide +kernel
theorem dX8_renew_12 : decode cX8_renew 12 = .ok (.iload_n 3, 1) := by decide +kernel
theorem dX8_renew_13 : decode cX8_renew 13 = .ok (.iastore, 1) := by decide +kernel
theorem dX8_renew_14 : decode cX8_renew 14 = .ok (.iconst 0, 1) := by decide +kernel
theorem dX8_renew_15 : decode cX8_renew 15 = .ok (.istore 4, 2) := by decide +kernel
theorem dX8_renew_17 : decode cX8_renew 17 = .ok (.iload 4, 2) := by decide +kernel
theorem dX8_renew_19 : decode cX8_renew 19 = .ok (.bipush 40, 2) := by decide +kernel
theorem dX8_renew_21 : decode cX8_renew 21 = .ok (.if_icmp .ge 19, 3) := by decide +kernel
theorem dX8_renew_24 : decode cX8_renew 24 = .ok (.aload_n 0, 1) := by decide +kernel
theorem dX8_renew_25 : decode cX8_renew 25 = .ok (.getfield 11, 3) := by decide +kernel
theorem dX8_renew_28 : decode cX8_renew 28 = .ok (.iload_n 1, 1) := by decide +kernel
theorem dX8_renew_29 : decode cX8_renew 29 = .ok (.aaload, 1) := by decide +kernel
theorem dX8_renew_30 : decode cX8_renew 30 = .ok (.iload 4, 2) := by decide +kernel
theorem dX8_renew_32 : decode cX8_renew 32 = .ok (.iconst 0, 1) := by decide +kernel
theorem dX8_renew_33 : decode cX8_renew 33 = .ok (.iastore, 1) := by decide +kernel
theorem dX8_renew_34 : decode cX8_renew 34 = .ok (.iinc 4 1, 3) := by decide +kernel
theorem dX8_renew_37 : decode cX8_renew 37 = .ok (.goto (-20), 3) := by decide +kernel
theorem dX8_renew_40 : decode cX8_renew 40 = .ok (.return_, 1) := by decide +kernel
theorem dX8_drop_0 : decode cX8_drop 0 = .ok (.aload_n 0, 1) := by decide +kernel
theorem dX8_drop_1 : decode cX8_drop 1 = .ok (.getfield 16, 3) := by decide +kernel
theorem dX8_drop_4 : decode cX8_drop 4 = .ok (.iload_n 1, 1) := by decide +kernel
theorem dX8_drop_5 : decode cX8_drop 5 = .ok (.iconst (-1), 1) := by decide +kernel
theorem dX8_drop_6 : decode cX8_drop 6 = .ok (.iastore, 1) := by decide +kernel
theorem dX8_drop_7 : decode cX8_drop 7 = .ok (.aload_n 0, 1) := by decide +kernel
theorem dX8_drop_8 : decode cX8_drop 8 = .ok (.getfield 20, 3) := by decide +kernel
theorem dX8_drop_11 : decode cX8_drop 11 = .ok (.iload_n 1, 1) := by decide +kernel
theorem dX8_drop_12 : decode cX8_drop 12 = .ok (.iconst 0, 1) := by decide +kernel
theorem dX8_drop_13 : decode cX8_drop 13 = .ok (.iastore, 1) := by decide +kernel
theorem dX8_drop_14 : decode cX8_drop 14 = .ok (.return_, 1) := by decide +kernel
theorem dX8_hasItems_0 : decode cX8_hasItems 0 = .ok (.iload_n 2, 1) := by decide +kernel
theorem dX8_hasItems_1 : decode cX8_hasItems 1 = .ok (.ifCond .lt 23, 3) := by decide +kernel
theorem dX8_hasItems_4 : decode cX8_hasItems 4 = .ok (.iload_n 3, 1) := by decide +kernel
theorem dX8_hasItems_5 : decode cX8_hasItems 5 = .ok (.ifCond .lt 19, 3) := by decide +kernel
theorem dX8_hasItems_8 : decode cX8_hasItems 8 = .ok (.iload_n 2, 1) := by decide +kernel
theorem dX8_hasItems_9 : decode cX8_hasItems 9 = .ok (.aload_n 0, 1) := by decide +kernel
theorem dX8_hasItems_10 : decode cX8_hasItems 10 = .ok (.getfield 20, 3) := by decide +kernel
theorem dX8_hasItems_13 : decode cX8_hasItems 13 = .ok (.iload_n 1, 1) := by decide +kernel
theorem dX8_hasItems_14 : decode cX8_hasItems 14 = .ok (.iaload, 1) := by decide +kernel
theorem dX8_hasItems_15 : decode cX8_hasItems 15 = .ok (.iload_n 3, 1) := by decide +kernel
theorem dX8_hasItems_16 : decode cX8_hasItems 16 = .ok (.isub, 1) := by decide +kernel
theorem dX8_hasItems_17 : decode cX8_hasItems 17 = .ok (.if_icmp .gt 7, 3) := by decide +kernel
theorem dX8_hasItems_20 : decode cX8_hasItems 20 = .ok (.iconst 1, 1) := by decide +kernel
theorem dX8_hasItems_21 : decode cX8_hasItems 21 = .ok (.goto 4, 3) := by decide +kernel
theorem dX8_hasItems_24 : decode cX8_hasItems 24 = .ok (.iconst 0, 1) := by decide +kernel
theorem dX8_hasItems_25 : decode cX8_hasItems 25 = .ok (.ireturn, 1) := by decide +kernel
theorem dX8_write_0 : decode cX8_write 0 = .ok (.aload_n 0, 1) := by decide +kernel
theorem dX8_write_1 : decode cX8_write 1 = .ok (.getfield 11, 3) := by decide +kernel
theorem dX8_write_4 : decode cX8_write 4 = .ok (.iload_n 1, 1) := by decide +kernel
theorem dX8_write_5 : decode cX8_write 5 = .ok (.aaload, 1) := by decide +kernel
theorem dX8_write_6 : decode cX8_write 6 = .ok (.iload_n 2, 1) := by decide +kernel
theorem dX8_write_7 : decode cX8_write 7 = .ok (.aload_n 0, 1) := by decide +kernel
theorem dX8_write_8 : decode cX8_write 8 = .ok (.getfield 16, 3) := by decide +kernel
theorem dX8_write_11 : decode cX8_write 11 = .ok (.iload_n 1, 1) := by decide +kernel
theorem dX8_write_12 : decode cX8_write 12 = .ok (.iaload, 1) := by decide +kernel
theorem dX8_write_13 : decode cX8_write 13 = .ok (.iload_n 3, 1) := by decide +kernel
theorem dX8_write_14 : decode cX8_write 14 = .ok (.invokestatic 31, 3) := by decide +kernel
theorem dX8_write_17 : decode cX8_write 17 = .ok (.iastore, 1) := by decide +kernel
theorem dX8_write_18 : decode cX8_write 18 = .ok (.return_, 1) := by decide +kernel
theorem dX8_cut_0 : decode cX8_cut 0 = .ok (.iload_n 0, 1) := by decide +kernel
theorem dX8_cut_1 : decode cX8_cut 1 = .ok (.ifCond .ne 6, 3) := by decide +kernel
theorem dX8_cut_4 : decode cX8_cut 4 = .ok (.iload_n 1, 1) := by decide +kernel
theorem dX8_cut_5 : decode cX8_cut 5 = .ok (.i2b, 1) := by decide +kernel
theorem dX8_cut_6 : decode cX8_cut 6 = .ok (.ireturn, 1) := by decide +kernel
theorem dX8_cut_7 : decode cX8_cut 7 = .ok (.iload_n 0, 1) := by decide +kernel
theorem dX8_cut_8 : decode cX8_cut 8 = .ok (.iconst 1, 1) := by decide +kernel
theorem dX8_cut_9 : decode cX8_cut 9 = .ok (.if_icmp .ne 8, 3) := by decide +kernel
theorem dX8_cut_12 : decode cX8_cut 12 = .ok (.iload_n 1, 1) := by decide +kernel
theorem dX8_cut_13 : decode cX8_cut 13 = .ok (.i2s, 1) := by decide +kernel
theorem dX8_cut_14 : decode cX8_cut 14 = .ok (.goto 4, 3) := by decide +kernel
theorem dX8_cut_17 : decode cX8_cut 17 = .ok (.iload_n 1, 1) := by decide +kernel
theorem dX8_cut_18 : decode cX8_cut 18 = .ok (.ireturn, 1) := by decide +kernel
theorem dX9_init_0 : decode cX9_init 0 = .ok (.aload_n 0, 1) := by decide +kernel
theorem dX9_init_1 : decode cX9_init 1 = .ok (.aload_n 1, 1) := by decide +kernel
theorem dX9_init_2 : decode cX9_init 2 = .ok (.invokespecial 3, 3) := by decide +kernel
theorem dX9_init_5 : decode cX9_init 5 = .ok (.aload_n 0, 1) := by decide +kernel
theorem dX9_init_6 : decode cX9_init 6 = .ok (.bipush 56, 2) := by decide +kernel
theorem dX9_init_8 : decode cX9_init 8 = .ok (.newarray .int, 2) := by decide +kernel
theorem dX9_init_10 : decode cX9_init 10 = .ok (.putfield 9, 3) := by decide +kernel
theorem dX9_init_13 : decode cX9_init 13 = .ok (.aload_n 0, 1) := by decide +kernel
theorem dX9_init_14 : decode cX9_init 14 = .ok (.bipush 56, 2) := by decide +kernel
theorem dX9_init_16 : decode cX9_init 16 = .ok (.newarray .int, 2) := by decide +kernel
theorem dX9_init_18 : decode cX9_init 18 = .ok (.putfield 15, 3) := by decide +kernel
theorem dX9_init_21 : decode cX9_init 21 = .ok (.aload_n 0, 1) := by decide +kernel
theorem dX9_init_22 : decode cX9_init 22 = .ok (.iconst 3, 1) := by decide +kernel
theorem dX9_init_23 : decode cX9_init 23 = .ok (.newarray .int, 2) := by decide +kernel
theorem dX9_init_25 : decode cX9_init 25 = .ok (.putfield 18, 3) := by decide +kernel
theorem dX9_init_28 : decode cX9_init 28 = .ok (.aload_n 0, 1) := by decide +kernel
theorem dX9_init_29 : decode cX9_init 29 = .ok (.iconst 1, 1) := by decide +kernel
theorem dX9_init_30 : decode cX9_init 30 = .ok (.iload_n 2, 1) := by decide +kernel
theorem dX9_init_31 : decode cX9_init 31 = .ok (.invokestatic 21, 3) := by decide +kernel
theorem dX9_init_34 : decode cX9_init 34 = .ok (.newarray .int, 2) := by decide +kernel
theorem dX9_init_36 : decode cX9_init 36 = .ok (.putfield 27, 3) := by decide +kernel
theorem dX9_init_39 : decode cX9_init 39 = .ok (.return_, 1) := by decide +kernel
theorem dX9_begin_0 : decode cX9_begin 0 = .ok (.aload_n 0, 1) := by decide +kernel
theorem dX9_begin_1 : decode cX9_begin 1 = .ok (.invokevirtual 30, 3) := by decide +kernel
theorem dX9_begin_4 : decode cX9_begin 4 = .ok (.iconst 0, 1) := by decide +kernel
theorem dX9_begin_5 : decode cX9_begin 5 = .ok (.istore_n 1, 1) := by decide +kernel
theorem dX9_begin_6 : decode cX9_begin 6 = .ok (.iload_n 1, 1) := by decide +kernel
theorem dX9_begin_7 : decode cX9_begin 7 = .ok (.aload_n 0, 1) := by decide +kernel
theorem dX9_begin_8 : decode cX9_begin 8 = .ok (.getfield 34, 3) := by decide +kernel
theorem dX9_begin_11 : decode cX9_begin 11 = .ok (.getfield 38, 3) := by decide +kernel
theorem dX9_begin_14 : decode cX9_begin 14 = .ok (.if_icmp .ge 86, 3) := by decide +kernel
theorem dX9_begin_17 : decode cX9_begin 17 = .ok (.aload_n 0, 1) := by decide +kernel
theorem dX9_begin_18 : decode cX9_begin 18 = .ok (.getfield 34, 3) := by decide +kernel
theorem dX9_begin_21 : decode cX9_begin 21 = .ok (.getfield 44, 3) := by decide +kernel
theorem dX9_begin_24 : decode cX9_begin 24 = .ok (.iload_n 1, 1) := by decide +kernel
theorem dX9_begin_25 : decode cX9_begin 25 = .ok (.iaload, 1) := by decide +kernel
theorem dX9_begin_26 : decode cX9_begin 26 = .ok (.istore_n 2, 1) := by decide +kernel
theorem dX9_begin_27 : decode cX9_begin 27 = .ok (.iconst 0, 1) := by decide +kernel
theorem dX9_begin_28 : decode cX9_begin 28 = .ok (.istore_n 3, 1) := by decide +kernel
theorem dX9_begin_29 : decode cX9_begin 29 = .ok (.iload_n 3, 1) := by decide +kernel
theorem dX9_begin_30 : decode cX9_begin 30 = .ok (.aload_n 0, 1) := by decide +kernel
theorem dX9_begin_31 : decode cX9_begin 31 = .ok (.getfield 34, 3) := by decide +kernel
theorem dX9_begin_34 : decode cX9_begin 34 = .ok (.getfield 47, 3) := by decide +kernel
theorem dX9_begin_37 : decode cX9_begin 37 = .ok (.if_icmp .ge 28, 3) := by decide +kernel
theorem dX9_begin_40 : decode cX9_begin 40 = .ok (.aload_n 0, 1) := by decide +kernel
theorem dX9_begin_41 : decode cX9_begin 41 = .ok (.getfield 18, 3) := by decide +kernel
theorem dX9_begin_44 : decode cX9_begin 44 = .ok (.iload_n 3, 1) := by decide +kernel
theorem dX9_begin_45 : decode cX9_begin 45 = .ok (.aload_n 0, 1) := by decide +kernel
theorem dX9_begin_46 : decode cX9_begin 46 = .ok (.getfield 34, 3) := by decide +kernel
theorem dX9_begin_49 : decode cX9_begin 49 = .ok (.getfield 50, 3) := by decide +kernel
theorem dX9_begin_52 : decode cX9_begin 52 = .ok (.iload_n 2, 1) := by decide +kernel
theorem dX9_begin_53 : decode cX9_begin 53 = .ok (.iload_n 3, 1) := by decide +kernel
theorem dX9_begin_54 : decode cX9_begin 54 = .ok (.invokestatic 53, 3) := by decide +kernel
theorem dX9_begin_57 : decode cX9_begin 57 = .ok (.iaload, 1) := by decide +kernel
theorem dX9_begin_58 : decode cX9_begin 58 = .ok (.iastore, 1) := by decide +kernel
theorem dX9_begin_59 : decode cX9_begin 59 = .ok (.iinc 3 1, 3) := by decide +kernel
theorem dX9_begin_62 : decode cX9_begin 62 = .ok (.goto (-33), 3) := by decide +kernel
theorem dX9_begin_65 : decode cX9_begin 65 = .ok (.aload_n 0, 1) := by decide +kernel
theorem dX9_begin_66 : decode cX9_begin 66 = .ok (.getfield 9, 3) := by decide +kernel
theorem dX9_begin_69 : decode cX9_begin 69 = .ok (.aload_n 0, 1) := by decide +kernel
theorem dX9_begin_70 : decode cX9_begin 70 = .ok (.getfield 34, 3) := by decide +kernel
theorem dX9_begin_73 : decode cX9_begin 73 = .ok (.getfield 56, 3) := by decide +kernel
theorem dX9_begin_76 : decode cX9_begin 76 = .ok (.iload_n 2, 1) := by decide +kernel
theorem dX9_begin_77 : decode cX9_begin 77 = .ok (.iaload, 1) := by decide +kernel
theorem dX9_begin_78 : decode cX9_begin 78 = .ok (.aload_n 0, 1) := by decide +kernel
theorem dX9_begin_79 : decode cX9_begin 79 = .ok (.getfield 34, 3) := by decide +kernel
theorem dX9_begin_82 : decode cX9_begin 82 = .ok (.aload_n 0, 1) := by decide +kernel
theorem dX9_begin_83 : decode cX9_begin 83 = .ok (.getfield 59, 3) := by decide +kernel
theorem dX9_begin_86 : decode cX9_begin 86 = .ok (.aload_n 0, 1) := by decide +kernel
theorem dX9_begin_87 : decode cX9_begin 87 = .ok (.getfield 18, 3) := by decide +kernel
theorem dX9_begin_90 : decode cX9_begin 90 = .ok (.invokevirtual 62, 3) := by decide +kernel
theorem dX9_begin_93 : decode cX9_begin 93 = .ok (.iastore, 1) := by decide +kernel
theorem dX9_begin_94 : decode cX9_begin 94 = .ok (.iinc 1 1, 3) := by decide +kernel
theorem dX9_begin_97 : decode cX9_begin 97 = .ok (.goto (-91), 3) := by decide +kernel
theorem dX9_begin_100 : decode cX9_begin 100 = .ok (.return_, 1) := by decide +kernel
theorem dX9_standAtStart_0 : decode cX9_standAtStart 0 = .ok (.aload_n 0, 1) := by decide +kernel
theorem dX9_standAtStart_1 : decode cX9_standAtStart 1 = .ok (.invokespecial 66, 3) := by decide +kernel
theorem dX9_standAtStart_4 : decode cX9_standAtStart 4 = .ok (.aload_n 0, 1) := by decide +kernel
theorem dX9_standAtStart_5 : decode cX9_standAtStart 5 = .ok (.aload_n 0, 1) := by decide +kernel
theorem dX9_standAtStart_6 : decode cX9_standAtStart 6 = .ok (.getfield 34, 3) := by decide +kernel
theorem dX9_standAtStart_9 : decode cX9_standAtStart 9 = .ok (.invokevirtual 67, 3) := by decide +kernel
theorem dX9_standAtStart_12 : decode cX9_standAtStart 12 = .ok (.putfield 71, 3) := by decide +kernel
theorem dX9_standAtStart_15 : decode cX9_standAtStart 15 = .ok (.aload_n 0, 1) := by decide +kernel
theorem dX9_standAtStart_16 : decode cX9_standAtStart 16 = .ok (.iconst 0, 1) := by decide +kernel
theorem dX9_standAtStart_17 : decode cX9_standAtStart 17 = .ok (.putfield 74, 3) := by decide +kernel
theorem dX9_standAtStart_20 : decode cX9_standAtStart 20 = .ok (.return_, 1) := by decide +kernel
theorem dX9_worth_0 : decode cX9_worth 0 = .ok (.aload_n 0, 1) := by decide +kernel
theorem dX9_worth_1 : decode cX9_worth 1 = .ok (.iload_n 1, 1) := by decide +kernel
theorem dX9_worth_2 : decode cX9_worth 2 = .ok (.aload_n 0, 1) := by decide +kernel
theorem dX9_worth_3 : decode cX9_worth 3 = .ok (.getfield 74, 3) := by decide +kernel
theorem dX9_worth_6 : decode cX9_worth 6 = .ok (.invokevirtual 77, 3) := by decide +kernel
theorem dX9_worth_9 : decode cX9_worth 9 = .ok (.ireturn, 1) := by decide +kernel
theorem dX9_worthBehind_0 : decode cX9_worthBehind 0 = .ok (.iload_n 2, 1) := by decide +kernel
theorem dX9_worthBehind_1 : decode cX9_worthBehind 1 = .ok (.ifCond .gt 18, 3) := by decide +kernel
theorem dX9_worthBehind_4 : decode cX9_worthBehind 4 = .ok (.aload_n 0, 1) := by decide +kernel
theorem dX9_worthBehind_5 : decode cX9_worthBehind 5 = .ok (.getfield 9, 3) := by decide +kernel
theorem dX9_worthBehind_8 : decode cX9_worthBehind 8 = .ok (.aload_n 0, 1) := by decide +kernel
theorem dX9_worthBehind_9 : decode cX9_worthBehind 9 = .ok (.getfield 34, 3) := by decide +kernel
theorem dX9_worthBehind_12 : decode cX9_worthBehind 12 = .ok (.getfield 56, 3) := by decide +kernel
theorem dX9_worthBehind_15 : decode cX9_worthBehind 15 = .ok (.iload_n 1, 1) := by decide +kernel
theorem dX9_worthBehind_16 : decode cX9_worthBehind 16 = .ok (.iaload, 1) := by decide +kernel
theorem dX9_worthBehind_17 : decode cX9_worthBehind 17 = .ok (.iaload, 1) := by decide +kernel
theorem dX9_worthBehind_18 : decode cX9_worthBehind 18 = .ok (.ireturn, 1) := by decide +kernel
theorem dX9_worthBehind_19 : decode cX9_worthBehind 19 = .ok (.aload_n 0, 1) := by decide +kernel
theorem dX9_worthBehind_20 : decode cX9_worthBehind 20 = .ok (.getfield 27, 3) := by decide +kernel
theorem dX9_worthBehind_23 : decode cX9_worthBehind 23 = .ok (.iload_n 2, 1) := by decide +kernel
theorem dX9_worthBehind_24 : decode cX9_worthBehind 24 = .ok (.iconst 1, 1) := by decide +kernel
theorem dX9_worthBehind_25 : decode cX9_worthBehind 25 = .ok (.isub, 1) := by decide +kernel
theorem dX9_worthBehind_26 : decode cX9_worthBehind 26 = .ok (.iaload, 1) := by decide +kernel
theorem dX9_worthBehind_27 : decode cX9_worthBehind 27 = .ok (.istore_n 3, 1) := by decide +kernel
theorem dX9_worthBehind_28 : decode cX9_worthBehind 28 = .ok (.ldc 80, 2) := by decide +kernel
theorem dX9_worthBehind_30 : decode cX9_worthBehind 30 = .ok (.istore 4, 2) := by decide +kernel
theorem dX9_worthBehind_32 : decode cX9_worthBehind 32 = .ok (.iconst 0, 1) := by decide +kernel
theorem dX9_worthBehind_33 : decode cX9_worthBehind 33 = .ok (.istore 5, 2) := by decide +kernel
theorem dX9_worthBehind_35 : decode cX9_worthBehind 35 = .ok (.iload 5, 2) := by decide +kernel
theorem dX9_worthBehind_37 : decode cX9_worthBehind 37 = .ok (.aload_n 0, 1) := by decide +kernel
theorem dX9_worthBehind_38 : decode cX9_worthBehind 38 = .ok (.getfield 34, 3) := by decide +kernel
theorem dX9_worthBehind_41 : decode cX9_worthBehind 41 = .ok (.getfield 47, 3) := by decide +kernel
theorem dX9_worthBehind_44 : decode cX9_worthBehind 44 = .ok (.if_icmp .ge 46, 3) := by decide +kernel
theorem dX9_worthBehind_47 : decode cX9_worthBehind 47 = .ok (.aload_n 0, 1) := by decide +kernel
theorem dX9_worthBehind_48 : decode cX9_worthBehind 48 = .ok (.iload_n 1, 1) := by decide +kernel
theorem dX9_worthBehind_49 : decode cX9_worthBehind 49 = .ok (.iload 5, 2) := by decide +kernel
theorem dX9_worthBehind_51 : decode cX9_worthBehind 51 = .ok (.iload_n 3, 1) := by decide +kernel
theorem dX9_worthBehind_52 : decode cX9_worthBehind 52 = .ok (.invokestatic 81, 3) := by decide +kernel
theorem dX9_worthBehind_55 : decode cX9_worthBehind 55 = .ok (.iload_n 2, 1) := by decide +kernel
theorem dX9_worthBehind_56 : decode cX9_worthBehind 56 = .ok (.iconst 1, 1) := by decide +kernel
theorem dX9_worthBehind_57 : decode cX9_worthBehind 57 = .ok (.isub, 1) := by decide +kernel
theorem dX9_worthBehind_58 : decode cX9_worthBehind 58 = .ok (.invokevirtual 77, 3) := by decide +kernel
theorem dX9_worthBehind_61 : decode cX9_worthBehind 61 = .ok (.istore 6, 2) := by decide +kernel
theorem dX9_worthBehind_63 : decode cX9_worthBehind 63 = .ok (.iload 4, 2) := by decide +kernel
theorem dX9_worthBehind_65 : decode cX9_worthBehind 65 = .ok (.iload 6, 2) := by decide +kernel
theorem dX9_worthBehind_67 : decode cX9_worthBehind 67 = .ok (.aload_n 0, 1) := by decide +kernel
theorem dX9_worthBehind_68 : decode cX9_worthBehind 68 = .ok (.getfield 34, 3) := by decide +kernel
theorem dX9_worthBehind_71 : decode cX9_worthBehind 71 = .ok (.iload_n 1, 1) := by decide +kernel
theorem dX9_worthBehind_72 : decode cX9_worthBehind 72 = .ok (.iload 5, 2) := by decide +kernel
theorem dX9_worthBehind_74 : decode cX9_worthBehind 74 = .ok (.iload_n 3, 1) := by decide +kernel
theorem dX9_worthBehind_75 : decode cX9_worthBehind 75 = .ok (.invokevirtual 85, 3) := by decide +kernel
theorem dX9_worthBehind_78 : decode cX9_worthBehind 78 = .ok (.iadd, 1) := by decide +kernel
theorem dX9_worthBehind_79 : decode cX9_worthBehind 79 = .ok (.invokestatic 88, 3) := by decide +kernel
theorem dX9_worthBehind_82 : decode cX9_worthBehind 82 = .ok (.istore 4, 2) := by decide +kernel
theorem dX9_worthBehind_84 : decode cX9_worthBehind 84 = .ok (.iinc 5 1, 3) := by decide +kernel
theorem dX9_worthBehind_87 : decode cX9_worthBehind 87 = .ok (.goto (-52), 3) := by decide +kernel
theorem dX9_worthBehind_90 : decode cX9_worthBehind 90 = .ok (.iload 4, 2) := by decide +kernel
theorem dX9_worthBehind_92 : decode cX9_worthBehind 92 = .ok (.ireturn, 1) := by decide +kernel
theorem dX9_settle_0 : decode cX9_settle 0 = .ok (.iconst 0, 1) := by decide +kernel
theorem dX9_settle_1 : decode cX9_settle 1 = .ok (.istore_n 1, 1) := by decide +kernel
theorem dX9_settle_2 : decode cX9_settle 2 = .ok (.iload_n 1, 1) := by decide +kernel
theorem dX9_settle_3 : decode cX9_settle 3 = .ok (.aload_n 0, 1) := by decide +kernel
theorem dX9_settle_4 : decode cX9_settle 4 = .ok (.getfield 34, 3) := by decide +kernel
theorem dX9_settle_7 : decode cX9_settle 7 = .ok (.getfield 38, 3) := by decide +kernel
theorem dX9_settle_10 : decode cX9_settle 10 = .ok (.if_icmp .ge 42, 3) := by decide +kernel
theorem dX9_settle_13 : decode cX9_settle 13 = .ok (.aload_n 0, 1) := by decide +kernel
theorem dX9_settle_14 : decode cX9_settle 14 = .ok (.getfield 34, 3) := by decide +kernel
theorem dX9_settle_17 : decode cX9_settle 17 = .ok (.getfield 44, 3) := by decide +kernel
theorem dX9_settle_20 : decode cX9_settle 20 = .ok (.iload_n 1, 1) := by decide +kernel
theorem dX9_settle_21 : decode cX9_settle 21 = .ok (.iaload, 1) := by decide +kernel
theorem dX9_settle_22 : decode cX9_settle 22 = .ok (.istore_n 2, 1) := by decide +kernel
theorem dX9_settle_23 : decode cX9_settle 23 = .ok (.aload_n 0, 1) := by decide +kernel
theorem dX9_settle_24 : decode cX9_settle 24 = .ok (.getfield 15, 3) := by decide +kernel
theorem dX9_settle_27 : decode cX9_settle 27 = .ok (.aload_n 0, 1) := by decide +kernel
theorem dX9_settle_28 : decode cX9_settle 28 = .ok (.getfield 34, 3) := by decide +kernel
theorem dX9_settle_31 : decode cX9_settle 31 = .ok (.getfield 56, 3) := by decide +kernel
theorem dX9_settle_34 : decode cX9_settle 34 = .ok (.iload_n 2, 1) := by decide +kernel
theorem dX9_settle_35 : decode cX9_settle 35 = .ok (.iaload, 1) := by decide +kernel
theorem dX9_settle_36 : decode cX9_settle 36 = .ok (.aload_n 0, 1) := by decide +kernel
theorem dX9_settle_37 : decode cX9_settle 37 = .ok (.iload_n 2, 1) := by decide +kernel
theorem dX9_settle_38 : decode cX9_settle 38 = .ok (.aload_n 0, 1) := by decide +kernel
theorem dX9_settle_39 : decode cX9_settle 39 = .ok (.getfield 74, 3) := by decide +kernel
theorem dX9_settle_42 : decode cX9_settle 42 = .ok (.invokevirtual 77, 3) := by decide +kernel
theorem dX9_settle_45 : decode cX9_settle 45 = .ok (.iastore, 1) := by decide +kernel
theorem dX9_settle_46 : decode cX9_settle 46 = .ok (.iinc 1 1, 3) := by decide +kernel
theorem dX9_settle_49 : decode cX9_settle 49 = .ok (.goto (-47), 3) := by decide +kernel
theorem dX9_settle_52 : decode cX9_settle 52 = .ok (.aload_n 0, 1) := by decide +kernel
theorem dX9_settle_53 : decode cX9_settle 53 = .ok (.getfield 9, 3) := by decide +kernel
theorem dX9_settle_56 : decode cX9_settle 56 = .ok (.astore_n 1, 1) := by decide +kernel
theorem dX9_settle_57 : decode cX9_settle 57 = .ok (.aload_n 0, 1) := by decide +kernel
theorem dX9_settle_58 : decode cX9_settle 58 = .ok (.aload_n 0, 1) := by decide +kernel
theorem dX9_settle_59 : decode cX9_settle 59 = .ok (.getfield 15, 3) := by decide +kernel
theorem dX9_settle_62 : decode cX9_settle 62 = .ok (.putfield 9, 3) := by decide +kernel
theorem dX9_settle_65 : decode cX9_settle 65 = .ok (.aload_n 0, 1) := by decide +kernel
theorem dX9_settle_66 : decode cX9_settle 66 = .ok (.aload_n 1, 1) := by decide +kernel
theorem dX9_settle_67 : decode cX9_settle 67 = .ok (.putfield 15, 3) := by decide +kernel
theorem dX9_settle_70 : decode cX9_settle 70 = .ok (.aload_n 0, 1) := by decide +kernel
theorem dX9_settle_71 : decode cX9_settle 71 = .ok (.iconst 0, 1) := by decide +kernel
theorem dX9_settle_72 : decode cX9_settle 72 = .ok (.putfield 74, 3) := by decide +kernel
theorem dX9_settle_75 : decode cX9_settle 75 = .ok (.return_, 1) := by decide +kernel
theorem dX9_meet_0 : decode cX9_meet 0 = .ok (.aload_n 0, 1) := by decide +kernel
theorem dX9_meet_1 : decode cX9_meet 1 = .ok (.getfield 74, 3) := by decide +kernel
theorem dX9_meet_4 : decode cX9_meet 4 = .ok (.aload_n 0, 1) := by decide +kernel
theorem dX9_meet_5 : decode cX9_meet 5 = .ok (.getfield 27, 3) := by decide +kernel
theorem dX9_meet_8 : decode cX9_meet 8 = .ok (.arraylength, 1) := by decide +kernel
theorem dX9_meet_9 : decode cX9_meet 9 = .ok (.if_icmp .lt 7, 3) := by decide +kernel
theorem dX9_meet_12 : decode cX9_meet 12 = .ok (.aload_n 0, 1) := by decide +kernel
theorem dX9_meet_13 : decode cX9_meet 13 = .ok (.invokevirtual 91, 3) := by decide +kernel
theorem dX9_meet_16 : decode cX9_meet 16 = .ok (.aload_n 0, 1) := by decide +kernel
theorem dX9_meet_17 : decode cX9_meet 17 = .ok (.getfield 27, 3) := by decide +kernel
theorem dX9_meet_20 : decode cX9_meet 20 = .ok (.aload_n 0, 1) := by decide +kernel
theorem dX9_meet_21 : decode cX9_meet 21 = .ok (.getfield 74, 3) := by decide +kernel
theorem dX9_meet_24 : decode cX9_meet 24 = .ok (.iload_n 1, 1) := by decide +kernel
theorem dX9_meet_25 : decode cX9_meet 25 = .ok (.iastore, 1) := by decide +kernel
theorem dX9_meet_26 : decode cX9_meet 26 = .ok (.aload_n 0, 1) := by decide +kernel
theorem dX9_meet_27 : decode cX9_meet 27 = .ok (.dup, 1) := by decide +kernel
theorem dX9_meet_28 : decode cX9_meet 28 = .ok (.getfield 74, 3) := by decide +kernel
theorem dX9_meet_31 : decode cX9_meet 31 = .ok (.iconst 1, 1) := by decide +kernel
theorem dX9_meet_32 : decode cX9_meet 32 = .ok (.iadd, 1) := by decide +kernel
theorem dX9_meet_33 : decode cX9_meet 33 = .ok (.putfield 74, 3) := by decide +kernel
theorem dX9_meet_36 : decode cX9_meet 36 = .ok (.aload_n 0, 1) := by decide +kernel
theorem dX9_meet_37 : decode cX9_meet 37 = .ok (.iload_n 1, 1) := by decide +kernel
theorem dX9_meet_38 : decode cX9_meet 38 = .ok (.invokevirtual 94, 3) := by decide +kernel
theorem dX9_meet_41 : decode cX9_meet 41 = .ok (.istore_n 3, 1) := by decide +kernel
theorem dX9_meet_42 : decode cX9_meet 42 = .ok (.aload_n 0, 1) := by decide +kernel
theorem dX9_meet_43 : decode cX9_meet 43 = .ok (.iload_n 3, 1) := by decide +kernel
theorem dX9_meet_44 : decode cX9_meet 44 = .ok (.aload_n 0, 1) := by decide +kernel
theorem dX9_meet_45 : decode cX9_meet 45 = .ok (.getfield 34, 3) := by decide +kernel
theorem dX9_meet_48 : decode cX9_meet 48 = .ok (.getfield 50, 3) := by decide +kernel
theorem dX9_meet_51 : decode cX9_meet 51 = .ok (.iload_n 1, 1) := by decide +kernel
theorem dX9_meet_52 : decode cX9_meet 52 = .ok (.iaload, 1) := by decide +kernel
theorem dX9_meet_53 : decode cX9_meet 53 = .ok (.invokevirtual 98, 3) := by decide +kernel
theorem dX9_meet_56 : decode cX9_meet 56 = .ok (.aload_n 0, 1) := by decide +kernel
theorem dX9_meet_57 : decode cX9_meet 57 = .ok (.aload_n 0, 1) := by decide +kernel
theorem dX9_meet_58 : decode cX9_meet 58 = .ok (.getfield 71, 3) := by decide +kernel
theorem dX9_meet_61 : decode cX9_meet 61 = .ok (.iload_n 3, 1) := by decide +kernel
theorem dX9_meet_62 : decode cX9_meet 62 = .ok (.iload_n 1, 1) := by decide +kernel
theorem dX9_meet_63 : decode cX9_meet 63 = .ok (.invokestatic 81, 3) := by decide +kernel
theorem dX9_meet_66 : decode cX9_meet 66 = .ok (.putfield 71, 3) := by decide +kernel
theorem dX9_meet_69 : decode cX9_meet 69 = .ok (.return_, 1) := by decide +kernel
theorem dX9_chosen_0 : decode cX9_chosen 0 = .ok (.iconst 0, 1) := by decide +kernel
theorem dX9_chosen_1 : decode cX9_chosen 1 = .ok (.istore_n 2, 1) := by decide +kernel
theorem dX9_chosen_2 : decode cX9_chosen 2 = .ok (.ldc 80, 2) := by decide +kernel
theorem dX9_chosen_4 : decode cX9_chosen 4 = .ok (.istore_n 3, 1) := by decide +kernel
theorem dX9_chosen_5 : decode cX9_chosen 5 = .ok (.iconst 0, 1) := by decide +kernel
theorem dX9_chosen_6 : decode cX9_chosen 6 = .ok (.istore 4, 2) := by decide +kernel
theorem dX9_chosen_8 : decode cX9_chosen 8 = .ok (.iload 4, 2) := by decide +kernel
theorem dX9_chosen_10 : decode cX9_chosen 10 = .ok (.aload_n 0, 1) := by decide +kernel
theorem dX9_chosen_11 : decode cX9_chosen 11 = .ok (.getfield 34, 3) := by decide +kernel
theorem dX9_chosen_14 : decode cX9_chosen 14 = .ok (.getfield 47, 3) := by decide +kernel
theorem dX9_chosen_17 : decode cX9_chosen 17 = .ok (.if_icmp .ge 60, 3) := by decide +kernel
theorem dX9_chosen_20 : decode cX9_chosen 20 = .ok (.aload_n 0, 1) := by decide +kernel
theorem dX9_chosen_21 : decode cX9_chosen 21 = .ok (.aload_n 0, 1) := by decide +kernel
theorem dX9_chosen_22 : decode cX9_chosen 22 = .ok (.getfield 71, 3) := by decide +kernel
theorem dX9_chosen_25 : decode cX9_chosen 25 = .ok (.iload 4, 2) := by decide +kernel
theorem dX9_chosen_27 : decode cX9_chosen 27 = .ok (.iload_n 1, 1) := by decide +kernel
theorem dX9_chosen_28 : decode cX9_chosen 28 = .ok (.invokestatic 81, 3) := by decide +kernel
theorem dX9_chosen_31 : decode cX9_chosen 31 = .ok (.aload_n 0, 1) := by decide +kernel
theorem dX9_chosen_32 : decode cX9_chosen 32 = .ok (.getfield 74, 3) := by decide +kernel
theorem dX9_chosen_35 : decode cX9_chosen 35 = .ok (.invokevirtual 77, 3) := by decide +kernel
theorem dX9_chosen_38 : decode cX9_chosen 38 = .ok (.istore 5, 2) := by decide +kernel
theorem dX9_chosen_40 : decode cX9_chosen 40 = .ok (.iload 5, 2) := by decide +kernel
theorem dX9_chosen_42 : decode cX9_chosen 42 = .ok (.aload_n 0, 1) := by decide +kernel
theorem dX9_chosen_43 : decode cX9_chosen 43 = .ok (.getfield 34, 3) := by decide +kernel
theorem dX9_chosen_46 : decode cX9_chosen 46 = .ok (.aload_n 0, 1) := by decide +kernel
theorem dX9_chosen_47 : decode cX9_chosen 47 = .ok (.getfield 71, 3) := by decide +kernel
theorem dX9_chosen_50 : decode cX9_chosen 50 = .ok (.iload 4, 2) := by decide +kernel
theorem dX9_chosen_52 : decode cX9_chosen 52 = .ok (.iload_n 1, 1) := by decide +kernel
theorem dX9_chosen_53 : decode cX9_chosen 53 = .ok (.invokevirtual 85, 3) := by decide +kernel
theorem dX9_chosen_56 : decode cX9_chosen 56 = .ok (.iadd, 1) := by decide +kernel
theorem dX9_chosen_57 : decode cX9_chosen 57 = .ok (.istore 6, 2) := by decide +kernel
theorem dX9_chosen_59 : decode cX9_chosen 59 = .ok (.iload 6, 2) := by decide +kernel
theorem dX9_chosen_61 : decode cX9_chosen 61 = .ok (.iload_n 3, 1) := by decide +kernel
theorem dX9_chosen_62 : decode cX9_chosen 62 = .ok (.if_icmp .ge 9, 3) := by decide +kernel
theorem dX9_chosen_65 : decode cX9_chosen 65 = .ok (.iload 6, 2) := by decide +kernel
theorem dX9_chosen_67 : decode cX9_chosen 67 = .ok (.istore_n 3, 1) := by decide +kernel
theorem dX9_chosen_68 : decode cX9_chosen 68 = .ok (.iload 4, 2) := by decide +kernel
theorem dX9_chosen_70 : decode cX9_chosen 70 = .ok (.istore_n 2, 1) := by decide +kernel
theorem dX9_chosen_71 : decode cX9_chosen 71 = .ok (.iinc 4 1, 3) := by decide +kernel
theorem dX9_chosen_74 : decode cX9_chosen 74 = .ok (.goto (-66), 3) := by decide +kernel
theorem dX9_chosen_77 : decode cX9_chosen 77 = .ok (.iload_n 2, 1) := by decide +kernel
theorem dX9_chosen_78 : decode cX9_chosen 78 = .ok (.ireturn, 1) := by decide +kernel
theorem dX10_init_0 : decode cX10_init 0 = .ok (.aload_n 0, 1) := by decide +kernel
theorem dX10_init_1 : decode cX10_init 1 = .ok (.invokespecial 3, 3) := by decide +kernel
theorem dX10_init_4 : decode cX10_init 4 = .ok (.aload_n 0, 1) := by decide +kernel
theorem dX10_init_5 : decode cX10_init 5 = .ok (.iconst 3, 1) := by decide +kernel
theorem dX10_init_6 : decode cX10_init 6 = .ok (.newarray .int, 2) := by decide +kernel
theorem dX10_init_8 : decode cX10_init 8 = .ok (.putfield 9, 3) := by decide +kernel
theorem dX10_init_11 : decode cX10_init 11 = .ok (.aload_n 0, 1) := by decide +kernel
theorem dX10_init_12 : decode cX10_init 12 = .ok (.iconst 3, 1) := by decide +kernel
theorem dX10_init_13 : decode cX10_init 13 = .ok (.newarray .int, 2) := by decide +kernel
theorem dX10_init_15 : decode cX10_init 15 = .ok (.putfield 15, 3) := by decide +kernel
theorem dX10_init_18 : decode cX10_init 18 = .ok (.aload_n 0, 1) := by decide +kernel
theorem dX10_init_19 : decode cX10_init 19 = .ok (.iconst (-1), 1) := by decide +kernel
theorem dX10_init_20 : decode cX10_init 20 = .ok (.putfield 18, 3) := by decide +kernel
theorem dX10_init_23 : decode cX10_init 23 = .ok (.aload_n 0, 1) := by decide +kernel
theorem dX10_init_24 : decode cX10_init 24 = .ok (.aload_n 1, 1) := by decide +kernel
theorem dX10_init_25 : decode cX10_init 25 = .ok (.putfield 22, 3) := by decide +kernel
theorem dX10_init_28 : decode cX10_init 28 = .ok (.aload_n 0, 1) := by decide +kernel
theorem dX10_init_29 : decode cX10_init 29 = .ok (.iconst 3, 1) := by decide +kernel
theorem dX10_init_30 : decode cX10_init 30 = .ok (.anewarray 26, 3) := by decide +kernel
theorem dX10_init_33 : decode cX10_init 33 = .ok (.dup, 1) := by decide +kernel
theorem dX10_init_34 : decode cX10_init 34 = .ok (.iconst 0, 1) := by decide +kernel
theorem dX10_init_35 : decode cX10_init 35 = .ok (.new 28, 3) := by decide +kernel
theorem dX10_init_38 : decode cX10_init 38 = .ok (.dup, 1) := by decide +kernel
theorem dX10_init_39 : decode cX10_init 39 = .ok (.aload_n 1, 1) := by decide +kernel
theorem dX10_init_40 : decode cX10_init 40 = .ok (.iconst 0, 1) := by decide +kernel
theorem dX10_init_41 : decode cX10_init 41 = .ok (.invokespecial 30, 3) := by decide +kernel
theorem dX10_init_44 : decode cX10_init 44 = .ok (.aastore, 1) := by decide +kernel
theorem dX10_init_45 : decode cX10_init 45 = .ok (.dup, 1) := by decide +kernel
theorem dX10_init_46 : decode cX10_init 46 = .ok (.iconst 1, 1) := by decide +kernel
theorem dX10_init_47 : decode cX10_init 47 = .ok (.new 33, 3) := by decide +kernel
theorem dX10_init_50 : decode cX10_init 50 = .ok (.dup, 1) := by decide +kernel
theorem dX10_init_51 : decode cX10_init 51 = .ok (.aload_n 1, 1) := by decide +kernel
theorem dX10_init_52 : decode cX10_init 52 = .ok (.invokespecial 35, 3) := by decide +kernel
theorem dX10_init_55 : decode cX10_init 55 = .ok (.aastore, 1) := by decide +kernel
theorem dX10_init_56 : decode cX10_init 56 = .ok (.dup, 1) := by decide +kernel
theorem dX10_init_57 : decode cX10_init 57 = .ok (.iconst 2, 1) := by decide +kernel
theorem dX10_init_58 : decode cX10_init 58 = .ok (.new 38, 3) := by decide +kernel
theorem dX10_init_61 : decode cX10_init 61 = .ok (.dup, 1) := by decide +kernel
theorem dX10_init_62 : decode cX10_init 62 = .ok (.aload_n 1, 1) := by decide +kernel
theorem dX10_init_63 : decode cX10_init 63 = .ok (.iconst 3, 1) := by decide +kernel
theorem dX10_init_64 : decode cX10_init 64 = .ok (.invokespecial 40, 3) := by decide +kernel
theorem dX10_init_67 : decode cX10_init 67 = .ok (.aastore, 1) := by decide +kernel
theorem dX10_init_68 : decode cX10_init 68 = .ok (.putfield 43, 3) := by decide +kernel
theorem dX10_init_71 : decode cX10_init 71 = .ok (.return_, 1) := by decide +kernel
theorem dX10_seek_0 : decode cX10_seek 0 = .ok (.aload_n 0, 1) := by decide +kernel
theorem dX10_seek_1 : decode cX10_seek 1 = .ok (.iconst (-1), 1) := by decide +kernel
theorem dX10_seek_2 : decode cX10_seek 2 = .ok (.putfield 18, 3) := by decide +kernel
theorem dX10_seek_5 : decode cX10_seek 5 = .ok (.aload_n 0, 1) := by decide +kernel
theorem dX10_seek_6 : decode cX10_seek 6 = .ok (.iconst 0, 1) := by decide +kernel
end
section
theorem dX10_seek_7 : decode cX10_seek 7 = .ok (.putfield 47, 3) := by decide +kernel
theorem dX10_seek_10 : decode cX10_seek 10 = .ok (.aload_n 0, 1) := by decide +kernel
theorem dX10_seek_11 : decode cX10_seek 11 = .ok (.iconst 0, 1) := by decide +kernel
theorem dX10_seek_12 : decode cX10_seek 12 = .ok (.putfield 50, 3) := by decide +kernel
theorem dX10_seek_15 : decode cX10_seek 15 = .ok (.iconst 0, 1) := by decide +kernel
theorem dX10_seek_16 : decode cX10_seek 16 = .ok (.istore_n 3, 1) := by decide +kernel
theorem dX10_seek_17 : decode cX10_seek 17 = .ok (.iload_n 3, 1) := by decide +kernel
theorem dX10_seek_18 : decode cX10_seek 18 = .ok (.iconst 3, 1) := by decide +kernel
theorem dX10_seek_19 : decode cX10_seek 19 = .ok (.if_icmp .ge 16, 3) := by decide +kernel
theorem dX10_seek_22 : decode cX10_seek 22 = .ok (.aload_n 0, 1) := by decide +kernel
theorem dX10_seek_23 : decode cX10_seek 23 = .ok (.getfield 9, 3) := by decide +kernel
theorem dX10_seek_26 : decode cX10_seek 26 = .ok (.iload_n 3, 1) := by decide +kernel
theorem dX10_seek_27 : decode cX10_seek 27 = .ok (.iconst 0, 1) := by decide +kernel
theorem dX10_seek_28 : decode cX10_seek 28 = .ok (.iastore, 1) := by decide +kernel
theorem dX10_seek_29 : decode cX10_seek 29 = .ok (.iinc 3 1, 3) := by decide +kernel
theorem dX10_seek_32 : decode cX10_seek 32 = .ok (.goto (-15), 3) := by decide +kernel
theorem dX10_seek_35 : decode cX10_seek 35 = .ok (.aload_n 0, 1) := by decide +kernel
theorem dX10_seek_36 : decode cX10_seek 36 = .ok (.getfield 43, 3) := by decide +kernel
theorem dX10_seek_39 : decode cX10_seek 39 = .ok (.iload_n 1, 1) := by decide +kernel
theorem dX10_seek_40 : decode cX10_seek 40 = .ok (.aaload, 1) := by decide +kernel
theorem dX10_seek_41 : decode cX10_seek 41 = .ok (.invokevirtual 53, 3) := by decide +kernel
theorem dX10_seek_44 : decode cX10_seek 44 = .ok (.iconst 0, 1) := by decide +kernel
theorem dX10_seek_45 : decode cX10_seek 45 = .ok (.istore_n 3, 1) := by decide +kernel
theorem dX10_seek_46 : decode cX10_seek 46 = .ok (.iload_n 3, 1) := by decide +kernel
theorem dX10_seek_47 : decode cX10_seek 47 = .ok (.sipush 216, 3) := by decide +kernel
theorem dX10_seek_50 : decode cX10_seek 50 = .ok (.if_icmp .ge 32, 3) := by decide +kernel
theorem dX10_seek_53 : decode cX10_seek 53 = .ok (.aload_n 0, 1) := by decide +kernel
theorem dX10_seek_54 : decode cX10_seek 54 = .ok (.aload_n 0, 1) := by decide +kernel
theorem dX10_seek_55 : decode cX10_seek 55 = .ok (.getfield 43, 3) := by decide +kernel
theorem dX10_seek_58 : decode cX10_seek 58 = .ok (.iload_n 1, 1) := by decide +kernel
theorem dX10_seek_59 : decode cX10_seek 59 = .ok (.aaload, 1) := by decide +kernel
theorem dX10_seek_60 : decode cX10_seek 60 = .ok (.iload_n 2, 1) := by decide +kernel
theorem dX10_seek_61 : decode cX10_seek 61 = .ok (.iload_n 3, 1) := by decide +kernel
theorem dX10_seek_62 : decode cX10_seek 62 = .ok (.invokevirtual 56, 3) := by decide +kernel
theorem dX10_seek_65 : decode cX10_seek 65 = .ok (.aload_n 0, 1) := by decide +kernel
theorem dX10_seek_66 : decode cX10_seek 66 = .ok (.iload_n 2, 1) := by decide +kernel
theorem dX10_seek_67 : decode cX10_seek 67 = .ok (.invokevirtual 60, 3) := by decide +kernel
theorem dX10_seek_70 : decode cX10_seek 70 = .ok (.ifCond .ne 6, 3) := by decide +kernel
theorem dX10_seek_73 : decode cX10_seek 73 = .ok (.goto 9, 3) := by decide +kernel
theorem dX10_seek_76 : decode cX10_seek 76 = .ok (.iinc 3 1, 3) := by decide +kernel
theorem dX10_seek_79 : decode cX10_seek 79 = .ok (.goto (-33), 3) := by decide +kernel
theorem dX10_seek_82 : decode cX10_seek 82 = .ok (.return_, 1) := by decide +kernel
theorem dX10_turnToNextRow_0 : decode cX10_turnToNextRow 0 = .ok (.iload_n 1, 1) := by decide +kernel
theorem dX10_turnToNextRow_1 : decode cX10_turnToNextRow 1 = .ok (.iconst 1, 1) := by decide +kernel
theorem dX10_turnToNextRow_2 : decode cX10_turnToNextRow 2 = .ok (.isub, 1) := by decide +kernel
theorem dX10_turnToNextRow_3 : decode cX10_turnToNextRow 3 = .ok (.istore_n 2, 1) := by decide +kernel
theorem dX10_turnToNextRow_4 : decode cX10_turnToNextRow 4 = .ok (.iload_n 2, 1) := by decide +kernel
theorem dX10_turnToNextRow_5 : decode cX10_turnToNextRow 5 = .ok (.ifCond .lt 46, 3) := by decide +kernel
theorem dX10_turnToNextRow_8 : decode cX10_turnToNextRow 8 = .ok (.aload_n 0, 1) := by decide +kernel
theorem dX10_turnToNextRow_9 : decode cX10_turnToNextRow 9 = .ok (.getfield 9, 3) := by decide +kernel
theorem dX10_turnToNextRow_12 : decode cX10_turnToNextRow 12 = .ok (.iload_n 2, 1) := by decide +kernel
theorem dX10_turnToNextRow_13 : decode cX10_turnToNextRow 13 = .ok (.iaload, 1) := by decide +kernel
theorem dX10_turnToNextRow_14 : decode cX10_turnToNextRow 14 = .ok (.aload_n 0, 1) := by decide +kernel
theorem dX10_turnToNextRow_15 : decode cX10_turnToNextRow 15 = .ok (.getfield 22, 3) := by decide +kernel
theorem dX10_turnToNextRow_18 : decode cX10_turnToNextRow 18 = .ok (.getfield 64, 3) := by decide +kernel
theorem dX10_turnToNextRow_21 : decode cX10_turnToNextRow 21 = .ok (.iconst 1, 1) := by decide +kernel
theorem dX10_turnToNextRow_22 : decode cX10_turnToNextRow 22 = .ok (.isub, 1) := by decide +kernel
theorem dX10_turnToNextRow_23 : decode cX10_turnToNextRow 23 = .ok (.if_icmp .ge 15, 3) := by decide +kernel
theorem dX10_turnToNextRow_26 : decode cX10_turnToNextRow 26 = .ok (.aload_n 0, 1) := by decide +kernel
theorem dX10_turnToNextRow_27 : decode cX10_turnToNextRow 27 = .ok (.getfield 9, 3) := by decide +kernel
theorem dX10_turnToNextRow_30 : decode cX10_turnToNextRow 30 = .ok (.iload_n 2, 1) := by decide +kernel
theorem dX10_turnToNextRow_31 : decode cX10_turnToNextRow 31 = .ok (.dup2, 1) := by decide +kernel
theorem dX10_turnToNextRow_32 : decode cX10_turnToNextRow 32 = .ok (.iaload, 1) := by decide +kernel
theorem dX10_turnToNextRow_33 : decode cX10_turnToNextRow 33 = .ok (.iconst 1, 1) := by decide +kernel
theorem dX10_turnToNextRow_34 : decode cX10_turnToNextRow 34 = .ok (.iadd, 1) := by decide +kernel
theorem dX10_turnToNextRow_35 : decode cX10_turnToNextRow 35 = .ok (.iastore, 1) := by decide +kernel
theorem dX10_turnToNextRow_36 : decode cX10_turnToNextRow 36 = .ok (.iconst 1, 1) := by decide +kernel
theorem dX10_turnToNextRow_37 : decode cX10_turnToNextRow 37 = .ok (.ireturn, 1) := by decide +kernel
theorem dX10_turnToNextRow_38 : decode cX10_turnToNextRow 38 = .ok (.aload_n 0, 1) := by decide +kernel
theorem dX10_turnToNextRow_39 : decode cX10_turnToNextRow 39 = .ok (.getfield 9, 3) := by decide +kernel
theorem dX10_turnToNextRow_42 : decode cX10_turnToNextRow 42 = .ok (.iload_n 2, 1) := by decide +kernel
theorem dX10_turnToNextRow_43 : decode cX10_turnToNextRow 43 = .ok (.iconst 0, 1) := by decide +kernel
theorem dX10_turnToNextRow_44 : decode cX10_turnToNextRow 44 = .ok (.iastore, 1) := by decide +kernel
theorem dX10_turnToNextRow_45 : decode cX10_turnToNextRow 45 = .ok (.iinc 2 (-1), 3) := by decide +kernel
theorem dX10_turnToNextRow_48 : decode cX10_turnToNextRow 48 = .ok (.goto (-44), 3) := by decide +kernel
theorem dX10_turnToNextRow_51 : decode cX10_turnToNextRow 51 = .ok (.iconst 0, 1) := by decide +kernel
theorem dX10_turnToNextRow_52 : decode cX10_turnToNextRow 52 = .ok (.ireturn, 1) := by decide +kernel
theorem dX10_weigh_0 : decode cX10_weigh 0 = .ok (.iconst 0, 1) := by decide +kernel
theorem dX10_weigh_1 : decode cX10_weigh 1 = .ok (.istore 4, 2) := by decide +kernel
theorem dX10_weigh_3 : decode cX10_weigh 3 = .ok (.iload 4, 2) := by decide +kernel
theorem dX10_weigh_5 : decode cX10_weigh 5 = .ok (.aload_n 0, 1) := by decide +kernel
theorem dX10_weigh_6 : decode cX10_weigh 6 = .ok (.getfield 22, 3) := by decide +kernel
theorem dX10_weigh_9 : decode cX10_weigh 9 = .ok (.getfield 69, 3) := by decide +kernel
theorem dX10_weigh_12 : decode cX10_weigh 12 = .ok (.if_icmp .ge 34, 3) := by decide +kernel
theorem dX10_weigh_15 : decode cX10_weigh 15 = .ok (.aload_n 0, 1) := by decide +kernel
theorem dX10_weigh_16 : decode cX10_weigh 16 = .ok (.getfield 15, 3) := by decide +kernel
theorem dX10_weigh_19 : decode cX10_weigh 19 = .ok (.iload 4, 2) := by decide +kernel
theorem dX10_weigh_21 : decode cX10_weigh 21 = .ok (.aload_n 0, 1) := by decide +kernel
theorem dX10_weigh_22 : decode cX10_weigh 22 = .ok (.getfield 22, 3) := by decide +kernel
theorem dX10_weigh_25 : decode cX10_weigh 25 = .ok (.getfield 72, 3) := by decide +kernel
theorem dX10_weigh_28 : decode cX10_weigh 28 = .ok (.aload_n 0, 1) := by decide +kernel
theorem dX10_weigh_29 : decode cX10_weigh 29 = .ok (.getfield 22, 3) := by decide +kernel
theorem dX10_weigh_32 : decode cX10_weigh 32 = .ok (.getfield 75, 3) := by decide +kernel
theorem dX10_weigh_35 : decode cX10_weigh 35 = .ok (.iload 4, 2) := by decide +kernel
theorem dX10_weigh_37 : decode cX10_weigh 37 = .ok (.iaload, 1) := by decide +kernel
theorem dX10_weigh_38 : decode cX10_weigh 38 = .ok (.iaload, 1) := by decide +kernel
theorem dX10_weigh_39 : decode cX10_weigh 39 = .ok (.iastore, 1) := by decide +kernel
theorem dX10_weigh_40 : decode cX10_weigh 40 = .ok (.iinc 4 1, 3) := by decide +kernel
theorem dX10_weigh_43 : decode cX10_weigh 43 = .ok (.goto (-40), 3) := by decide +kernel
theorem dX10_weigh_46 : decode cX10_weigh 46 = .ok (.aload_n 0, 1) := by decide +kernel
theorem dX10_weigh_47 : decode cX10_weigh 47 = .ok (.iconst 0, 1) := by decide +kernel
theorem dX10_weigh_48 : decode cX10_weigh 48 = .ok (.iload_n 2, 1) := by decide +kernel
theorem dX10_weigh_49 : decode cX10_weigh 49 = .ok (.invokevirtual 78, 3) := by decide +kernel
theorem dX10_weigh_52 : decode cX10_weigh 52 = .ok (.istore 4, 2) := by decide +kernel
theorem dX10_weigh_54 : decode cX10_weigh 54 = .ok (.iload 4, 2) := by decide +kernel
theorem dX10_weigh_56 : decode cX10_weigh 56 = .ok (.ifCond .gt 4, 3) := by decide +kernel
theorem dX10_weigh_59 : decode cX10_weigh 59 = .ok (.return_, 1) := by decide +kernel
theorem dX10_weigh_60 : decode cX10_weigh 60 = .ok (.aload_n 1, 1) := by decide +kernel
theorem dX10_weigh_61 : decode cX10_weigh 61 = .ok (.invokevirtual 82, 3) := by decide +kernel
theorem dX10_weigh_64 : decode cX10_weigh 64 = .ok (.iconst 0, 1) := by decide +kernel
theorem dX10_weigh_65 : decode cX10_weigh 65 = .ok (.istore 5, 2) := by decide +kernel
theorem dX10_weigh_67 : decode cX10_weigh 67 = .ok (.iload 5, 2) := by decide +kernel
theorem dX10_weigh_69 : decode cX10_weigh 69 = .ok (.iload_n 2, 1) := by decide +kernel
theorem dX10_weigh_70 : decode cX10_weigh 70 = .ok (.if_icmp .ge 21, 3) := by decide +kernel
theorem dX10_weigh_73 : decode cX10_weigh 73 = .ok (.aload_n 1, 1) := by decide +kernel
theorem dX10_weigh_74 : decode cX10_weigh 74 = .ok (.aload_n 0, 1) := by decide +kernel
theorem dX10_weigh_75 : decode cX10_weigh 75 = .ok (.getfield 9, 3) := by decide +kernel
theorem dX10_weigh_78 : decode cX10_weigh 78 = .ok (.iload 5, 2) := by decide +kernel
theorem dX10_weigh_80 : decode cX10_weigh 80 = .ok (.iaload, 1) := by decide +kernel
theorem dX10_weigh_81 : decode cX10_weigh 81 = .ok (.iconst (-1), 1) := by decide +kernel
theorem dX10_weigh_82 : decode cX10_weigh 82 = .ok (.invokevirtual 85, 3) := by decide +kernel
theorem dX10_weigh_85 : decode cX10_weigh 85 = .ok (.iinc 5 1, 3) := by decide +kernel
theorem dX10_weigh_88 : decode cX10_weigh 88 = .ok (.goto (-21), 3) := by decide +kernel
theorem dX10_weigh_91 : decode cX10_weigh 91 = .ok (.aload_n 0, 1) := by decide +kernel
theorem dX10_weigh_92 : decode cX10_weigh 92 = .ok (.getfield 18, 3) := by decide +kernel
theorem dX10_weigh_95 : decode cX10_weigh 95 = .ok (.iconst (-1), 1) := by decide +kernel
theorem dX10_weigh_96 : decode cX10_weigh 96 = .ok (.if_icmp .eq 22, 3) := by decide +kernel
theorem dX10_weigh_99 : decode cX10_weigh 99 = .ok (.aload_n 1, 1) := by decide +kernel
theorem dX10_weigh_100 : decode cX10_weigh 100 = .ok (.getfield 89, 3) := by decide +kernel
theorem dX10_weigh_103 : decode cX10_weigh 103 = .ok (.aload_n 0, 1) := by decide +kernel
theorem dX10_weigh_104 : decode cX10_weigh 104 = .ok (.getfield 50, 3) := by decide +kernel
theorem dX10_weigh_107 : decode cX10_weigh 107 = .ok (.imul, 1) := by decide +kernel
theorem dX10_weigh_108 : decode cX10_weigh 108 = .ok (.aload_n 0, 1) := by decide +kernel
theorem dX10_weigh_109 : decode cX10_weigh 109 = .ok (.getfield 47, 3) := by decide +kernel
theorem dX10_weigh_112 : decode cX10_weigh 112 = .ok (.iload 4, 2) := by decide +kernel
theorem dX10_weigh_114 : decode cX10_weigh 114 = .ok (.imul, 1) := by decide +kernel
theorem dX10_weigh_115 : decode cX10_weigh 115 = .ok (.if_icmp .le 22, 3) := by decide +kernel
theorem dX10_weigh_118 : decode cX10_weigh 118 = .ok (.aload_n 0, 1) := by decide +kernel
theorem dX10_weigh_119 : decode cX10_weigh 119 = .ok (.iload_n 3, 1) := by decide +kernel
theorem dX10_weigh_120 : decode cX10_weigh 120 = .ok (.putfield 18, 3) := by decide +kernel
theorem dX10_weigh_123 : decode cX10_weigh 123 = .ok (.aload_n 0, 1) := by decide +kernel
theorem dX10_weigh_124 : decode cX10_weigh 124 = .ok (.aload_n 1, 1) := by decide +kernel
theorem dX10_weigh_125 : decode cX10_weigh 125 = .ok (.getfield 89, 3) := by decide +kernel
theorem dX10_weigh_128 : decode cX10_weigh 128 = .ok (.putfield 47, 3) := by decide +kernel
theorem dX10_weigh_131 : decode cX10_weigh 131 = .ok (.aload_n 0, 1) := by decide +kernel
theorem dX10_weigh_132 : decode cX10_weigh 132 = .ok (.iload 4, 2) := by decide +kernel
theorem dX10_weigh_134 : decode cX10_weigh 134 = .ok (.putfield 50, 3) := by decide +kernel
theorem dX10_weigh_137 : decode cX10_weigh 137 = .ok (.return_, 1) := by decide +kernel
theorem dX10_leastFrom_0 : decode cX10_leastFrom 0 = .ok (.iload_n 1, 1) := by decide +kernel
theorem dX10_leastFrom_1 : decode cX10_leastFrom 1 = .ok (.iload_n 2, 1) := by decide +kernel
theorem dX10_leastFrom_2 : decode cX10_leastFrom 2 = .ok (.if_icmp .lt 5, 3) := by decide +kernel
theorem dX10_leastFrom_5 : decode cX10_leastFrom 5 = .ok (.iconst 0, 1) := by decide +kernel
theorem dX10_leastFrom_6 : decode cX10_leastFrom 6 = .ok (.ireturn, 1) := by decide +kernel
theorem dX10_leastFrom_7 : decode cX10_leastFrom 7 = .ok (.aload_n 0, 1) := by decide +kernel
theorem dX10_leastFrom_8 : decode cX10_leastFrom 8 = .ok (.getfield 22, 3) := by decide +kernel
theorem dX10_leastFrom_11 : decode cX10_leastFrom 11 = .ok (.getfield 72, 3) := by decide +kernel
theorem dX10_leastFrom_14 : decode cX10_leastFrom 14 = .ok (.aload_n 0, 1) := by decide +kernel
theorem dX10_leastFrom_15 : decode cX10_leastFrom 15 = .ok (.getfield 9, 3) := by decide +kernel
theorem dX10_leastFrom_18 : decode cX10_leastFrom 18 = .ok (.iload_n 1, 1) := by decide +kernel
theorem dX10_leastFrom_19 : decode cX10_leastFrom 19 = .ok (.iaload, 1) := by decide +kernel
theorem dX10_leastFrom_20 : decode cX10_leastFrom 20 = .ok (.iaload, 1) := by decide +kernel
theorem dX10_leastFrom_21 : decode cX10_leastFrom 21 = .ok (.istore_n 3, 1) := by decide +kernel
theorem dX10_leastFrom_22 : decode cX10_leastFrom 22 = .ok (.ldc 90, 2) := by decide +kernel
theorem dX10_leastFrom_24 : decode cX10_leastFrom 24 = .ok (.istore 4, 2) := by decide +kernel
theorem dX10_leastFrom_26 : decode cX10_leastFrom 26 = .ok (.iconst 0, 1) := by decide +kernel
theorem dX10_leastFrom_27 : decode cX10_leastFrom 27 = .ok (.istore 5, 2) := by decide +kernel
theorem dX10_leastFrom_29 : decode cX10_leastFrom 29 = .ok (.iload 5, 2) := by decide +kernel
theorem dX10_leastFrom_31 : decode cX10_leastFrom 31 = .ok (.aload_n 0, 1) := by decide +kernel
theorem dX10_leastFrom_32 : decode cX10_leastFrom 32 = .ok (.getfield 22, 3) := by decide +kernel
theorem dX10_leastFrom_35 : decode cX10_leastFrom 35 = .ok (.getfield 69, 3) := by decide +kernel
theorem dX10_leastFrom_38 : decode cX10_leastFrom 38 = .ok (.if_icmp .ge 58, 3) := by decide +kernel
theorem dX10_leastFrom_41 : decode cX10_leastFrom 41 = .ok (.aload_n 0, 1) := by decide +kernel
theorem dX10_leastFrom_42 : decode cX10_leastFrom 42 = .ok (.getfield 15, 3) := by decide +kernel
theorem dX10_leastFrom_45 : decode cX10_leastFrom 45 = .ok (.iload 5, 2) := by decide +kernel
theorem dX10_leastFrom_47 : decode cX10_leastFrom 47 = .ok (.iaload, 1) := by decide +kernel
theorem dX10_leastFrom_48 : decode cX10_leastFrom 48 = .ok (.istore 6, 2) := by decide +kernel
theorem dX10_leastFrom_50 : decode cX10_leastFrom 50 = .ok (.aload_n 0, 1) := by decide +kernel
theorem dX10_leastFrom_51 : decode cX10_leastFrom 51 = .ok (.getfield 15, 3) := by decide +kernel
theorem dX10_leastFrom_54 : decode cX10_leastFrom 54 = .ok (.iload 5, 2) := by decide +kernel
theorem dX10_leastFrom_56 : decode cX10_leastFrom 56 = .ok (.iload_n 3, 1) := by decide +kernel
theorem dX10_leastFrom_57 : decode cX10_leastFrom 57 = .ok (.iastore, 1) := by decide +kernel
theorem dX10_leastFrom_58 : decode cX10_leastFrom 58 = .ok (.iload 4, 2) := by decide +kernel
theorem dX10_leastFrom_60 : decode cX10_leastFrom 60 = .ok (.iload 6, 2) := by decide +kernel
theorem dX10_leastFrom_62 : decode cX10_leastFrom 62 = .ok (.iload_n 3, 1) := by decide +kernel
theorem dX10_leastFrom_63 : decode cX10_leastFrom 63 = .ok (.isub, 1) := by decide +kernel
theorem dX10_leastFrom_64 : decode cX10_leastFrom 64 = .ok (.invokestatic 91, 3) := by decide +kernel
theorem dX10_leastFrom_67 : decode cX10_leastFrom 67 = .ok (.aload_n 0, 1) := by decide +kernel
theorem dX10_leastFrom_68 : decode cX10_leastFrom 68 = .ok (.iload_n 1, 1) := by decide +kernel
theorem dX10_leastFrom_69 : decode cX10_leastFrom 69 = .ok (.iconst 1, 1) := by decide +kernel
theorem dX10_leastFrom_70 : decode cX10_leastFrom 70 = .ok (.iadd, 1) := by decide +kernel
theorem dX10_leastFrom_71 : decode cX10_leastFrom 71 = .ok (.iload_n 2, 1) := by decide +kernel
theorem dX10_leastFrom_72 : decode cX10_leastFrom 72 = .ok (.invokevirtual 78, 3) := by decide +kernel
theorem dX10_leastFrom_75 : decode cX10_leastFrom 75 = .ok (.iadd, 1) := by decide +kernel
theorem dX10_leastFrom_76 : decode cX10_leastFrom 76 = .ok (.invokestatic 97, 3) := by decide +kernel
theorem dX10_leastFrom_79 : decode cX10_leastFrom 79 = .ok (.istore 4, 2) := by decide +kernel
theorem dX10_leastFrom_81 : decode cX10_leastFrom 81 = .ok (.aload_n 0, 1) := by decide +kernel
theorem dX10_leastFrom_82 : decode cX10_leastFrom 82 = .ok (.getfield 15, 3) := by decide +kernel
theorem dX10_leastFrom_85 : decode cX10_leastFrom 85 = .ok (.iload 5, 2) := by decide +kernel
theorem dX10_leastFrom_87 : decode cX10_leastFrom 87 = .ok (.iload 6, 2) := by decide +kernel
theorem dX10_leastFrom_89 : decode cX10_leastFrom 89 = .ok (.iastore, 1) := by decide +kernel
theorem dX10_leastFrom_90 : decode cX10_leastFrom 90 = .ok (.iinc 5 1, 3) := by decide +kernel
theorem dX10_leastFrom_93 : decode cX10_leastFrom 93 = .ok (.goto (-64), 3) := by decide +kernel
theorem dX10_leastFrom_96 : decode cX10_leastFrom 96 = .ok (.iload 4, 2) := by decide +kernel
theorem dX10_leastFrom_98 : decode cX10_leastFrom 98 = .ok (.ireturn, 1) := by decide +kernel
theorem dX11_init_0 : decode cX11_init 0 = .ok (.aload_n 0, 1) := by decide +kernel
theorem dX11_init_1 : decode cX11_init 1 = .ok (.invokespecial 1, 3) := by decide +kernel
theorem dX11_init_4 : decode cX11_init 4 = .ok (.aload_n 0, 1) := by decide +kernel
theorem dX11_init_5 : decode cX11_init 5 = .ok (.new 7, 3) := by decide +kernel
theorem dX11_init_8 : decode cX11_init 8 = .ok (.dup, 1) := by decide +kernel
theorem dX11_init_9 : decode cX11_init 9 = .ok (.invokespecial 9, 3) := by decide +kernel
theorem dX11_init_12 : decode cX11_init 12 = .ok (.putfield 10, 3) := by decide +kernel
theorem dX11_init_15 : decode cX11_init 15 = .ok (.aload_n 0, 1) := by decide +kernel
theorem dX11_init_16 : decode cX11_init 16 = .ok (.new 16, 3) := by decide +kernel
theorem dX11_init_19 : decode cX11_init 19 = .ok (.dup, 1) := by decide +kernel
theorem dX11_init_20 : decode cX11_init 20 = .ok (.invokespecial 18, 3) := by decide +kernel
theorem dX11_init_23 : decode cX11_init 23 = .ok (.putfield 19, 3) := by decide +kernel
theorem dX11_init_26 : decode cX11_init 26 = .ok (.aload_n 0, 1) := by decide +kernel
theorem dX11_init_27 : decode cX11_init 27 = .ok (.new 23, 3) := by decide +kernel
theorem dX11_init_30 : decode cX11_init 30 = .ok (.dup, 1) := by decide +kernel
theorem dX11_init_31 : decode cX11_init 31 = .ok (.invokespecial 25, 3) := by decide +kernel
theorem dX11_init_34 : decode cX11_init 34 = .ok (.putfield 26, 3) := by decide +kernel
theorem dX11_init_37 : decode cX11_init 37 = .ok (.aload_n 0, 1) := by decide +kernel
theorem dX11_init_38 : decode cX11_init 38 = .ok (.new 30, 3) := by decide +kernel
theorem dX11_init_41 : decode cX11_init 41 = .ok (.dup, 1) := by decide +kernel
theorem dX11_init_42 : decode cX11_init 42 = .ok (.aload_n 0, 1) := by decide +kernel
theorem dX11_init_43 : decode cX11_init 43 = .ok (.getfield 10, 3) := by decide +kernel
theorem dX11_init_46 : decode cX11_init 46 = .ok (.iconst 1, 1) := by decide +kernel
theorem dX11_init_47 : decode cX11_init 47 = .ok (.invokespecial 32, 3) := by decide +kernel
theorem dX11_init_50 : decode cX11_init 50 = .ok (.putfield 35, 3) := by decide +kernel
theorem dX11_init_53 : decode cX11_init 53 = .ok (.aload_n 0, 1) := by decide +kernel
theorem dX11_init_54 : decode cX11_init 54 = .ok (.new 39, 3) := by decide +kernel
theorem dX11_init_57 : decode cX11_init 57 = .ok (.dup, 1) := by decide +kernel
theorem dX11_init_58 : decode cX11_init 58 = .ok (.aload_n 0, 1) := by decide +kernel
theorem dX11_init_59 : decode cX11_init 59 = .ok (.getfield 10, 3) := by decide +kernel
theorem dX11_init_62 : decode cX11_init 62 = .ok (.invokespecial 41, 3) := by decide +kernel
theorem dX11_init_65 : decode cX11_init 65 = .ok (.putfield 44, 3) := by decide +kernel
theorem dX11_init_68 : decode cX11_init 68 = .ok (.aload_n 0, 1) := by decide +kernel
theorem dX11_init_69 : decode cX11_init 69 = .ok (.iconst 5, 1) := by decide +kernel
theorem dX11_init_70 : decode cX11_init 70 = .ok (.anewarray 48, 3) := by decide +kernel
theorem dX11_init_73 : decode cX11_init 73 = .ok (.dup, 1) := by decide +kernel
theorem dX11_init_74 : decode cX11_init 74 = .ok (.iconst 0, 1) := by decide +kernel
theorem dX11_init_75 : decode cX11_init 75 = .ok (.new 50, 3) := by decide +kernel
theorem dX11_init_78 : decode cX11_init 78 = .ok (.dup, 1) := by decide +kernel
theorem dX11_init_79 : decode cX11_init 79 = .ok (.aload_n 0, 1) := by decide +kernel
theorem dX11_init_80 : decode cX11_init 80 = .ok (.getfield 10, 3) := by decide +kernel
theorem dX11_init_83 : decode cX11_init 83 = .ok (.iconst 0, 1) := by decide +kernel
theorem dX11_init_84 : decode cX11_init 84 = .ok (.invokespecial 52, 3) := by decide +kernel
theorem dX11_init_87 : decode cX11_init 87 = .ok (.aastore, 1) := by decide +kernel
theorem dX11_init_88 : decode cX11_init 88 = .ok (.dup, 1) := by decide +kernel
theorem dX11_init_89 : decode cX11_init 89 = .ok (.iconst 1, 1) := by decide +kernel
theorem dX11_init_90 : decode cX11_init 90 = .ok (.new 55, 3) := by decide +kernel
theorem dX11_init_93 : decode cX11_init 93 = .ok (.dup, 1) := by decide +kernel
theorem dX11_init_94 : decode cX11_init 94 = .ok (.aload_n 0, 1) := by decide +kernel
theorem dX11_init_95 : decode cX11_init 95 = .ok (.getfield 10, 3) := by decide +kernel
theorem dX11_init_98 : decode cX11_init 98 = .ok (.invokespecial 57, 3) := by decide +kernel
theorem dX11_init_101 : decode cX11_init 101 = .ok (.aastore, 1) := by decide +kernel
theorem dX11_init_102 : decode cX11_init 102 = .ok (.dup, 1) := by decide +kernel
theorem dX11_init_103 : decode cX11_init 103 = .ok (.iconst 2, 1) := by decide +kernel
theorem dX11_init_104 : decode cX11_init 104 = .ok (.aload_n 0, 1) := by decide +kernel
theorem dX11_init_105 : decode cX11_init 105 = .ok (.getfield 35, 3) := by decide +kernel
theorem dX11_init_108 : decode cX11_init 108 = .ok (.aastore, 1) := by decide +kernel
theorem dX11_init_109 : decode cX11_init 109 = .ok (.dup, 1) := by decide +kernel
theorem dX11_init_110 : decode cX11_init 110 = .ok (.iconst 3, 1) := by decide +kernel
theorem dX11_init_111 : decode cX11_init 111 = .ok (.new 50, 3) := by decide +kernel
theorem dX11_init_114 : decode cX11_init 114 = .ok (.dup, 1) := by decide +kernel
theorem dX11_init_115 : decode cX11_init 115 = .ok (.aload_n 0, 1) := by decide +kernel
theorem dX11_init_116 : decode cX11_init 116 = .ok (.getfield 10, 3) := by decide +kernel
theorem dX11_init_119 : decode cX11_init 119 = .ok (.iconst 1, 1) := by decide +kernel
theorem dX11_init_120 : decode cX11_init 120 = .ok (.invokespecial 52, 3) := by decide +kernel
theorem dX11_init_123 : decode cX11_init 123 = .ok (.aastore, 1) := by decide +kernel
theorem dX11_init_124 : decode cX11_init 124 = .ok (.dup, 1) := by decide +kernel
theorem dX11_init_125 : decode cX11_init 125 = .ok (.iconst 4, 1) := by decide +kernel
theorem dX11_init_126 : decode cX11_init 126 = .ok (.aload_n 0, 1) := by decide +kernel
theorem dX11_init_127 : decode cX11_init 127 = .ok (.getfield 44, 3) := by decide +kernel
theorem dX11_init_130 : decode cX11_init 130 = .ok (.aastore, 1) := by decide +kernel
theorem dX11_init_131 : decode cX11_init 131 = .ok (.putfield 58, 3) := by decide +kernel
theorem dX11_init_134 : decode cX11_init 134 = .ok (.aload_n 0, 1) := by decide +kernel
theorem dX11_init_135 : decode cX11_init 135 = .ok (.new 62, 3) := by decide +kernel
theorem dX11_init_138 : decode cX11_init 138 = .ok (.dup, 1) := by decide +kernel
theorem dX11_init_139 : decode cX11_init 139 = .ok (.aload_n 0, 1) := by decide +kernel
theorem dX11_init_140 : decode cX11_init 140 = .ok (.getfield 10, 3) := by decide +kernel
theorem dX11_init_143 : decode cX11_init 143 = .ok (.invokespecial 64, 3) := by decide +kernel
theorem dX11_init_146 : decode cX11_init 146 = .ok (.putfield 65, 3) := by decide +kernel
theorem dX11_init_149 : decode cX11_init 149 = .ok (.aload_n 0, 1) := by decide +kernel
theorem dX11_init_150 : decode cX11_init 150 = .ok (.new 69, 3) := by decide +kernel
theorem dX11_init_153 : decode cX11_init 153 = .ok (.dup, 1) := by decide +kernel
theorem dX11_init_154 : decode cX11_init 154 = .ok (.aload_n 0, 1) := by decide +kernel
theorem dX11_init_155 : decode cX11_init 155 = .ok (.getfield 10, 3) := by decide +kernel
theorem dX11_init_158 : decode cX11_init 158 = .ok (.aload_n 0, 1) := by decide +kernel
theorem dX11_init_159 : decode cX11_init 159 = .ok (.getfield 65, 3) := by decide +kernel
theorem dX11_init_162 : decode cX11_init 162 = .ok (.invokespecial 71, 3) := by decide +kernel
theorem dX11_init_165 : decode cX11_init 165 = .ok (.putfield 74, 3) := by decide +kernel
theorem dX11_init_168 : decode cX11_init 168 = .ok (.aload_n 0, 1) := by decide +kernel
theorem dX11_init_169 : decode cX11_init 169 = .ok (.new 78, 3) := by decide +kernel
theorem dX11_init_172 : decode cX11_init 172 = .ok (.dup, 1) := by decide +kernel
theorem dX11_init_173 : decode cX11_init 173 = .ok (.aload_n 0, 1) := by decide +kernel
theorem dX11_init_174 : decode cX11_init 174 = .ok (.getfield 10, 3) := by decide +kernel
theorem dX11_init_177 : decode cX11_init 177 = .ok (.invokespecial 80, 3) := by decide +kernel
theorem dX11_init_180 : decode cX11_init 180 = .ok (.putfield 81, 3) := by decide +kernel
theorem dX11_init_183 : decode cX11_init 183 = .ok (.return_, 1) := by decide +kernel
theorem dX11_points_0 : decode cX11_points 0 = .ok (.iload_n 1, 1) := by decide +kernel
theorem dX11_points_1 : decode cX11_points 1 = .ok (.iconst 1, 1) := by decide +kernel
theorem dX11_points_2 : decode cX11_points 2 = .ok (.bipush 6, 2) := by decide +kernel
theorem dX11_points_4 : decode cX11_points 4 = .ok (.invokestatic 85, 3) := by decide +kernel
theorem dX11_points_7 : decode cX11_points 7 = .ok (.ifCond .ne 6, 3) := by decide +kernel
theorem dX11_points_10 : decode cX11_points 10 = .ok (.bipush (-2), 2) := by decide +kernel
theorem dX11_points_12 : decode cX11_points 12 = .ok (.ireturn, 1) := by decide +kernel
theorem dX11_points_13 : decode cX11_points 13 = .ok (.aload_n 0, 1) := by decide +kernel
theorem dX11_points_14 : decode cX11_points 14 = .ok (.getfield 10, 3) := by decide +kernel
theorem dX11_points_17 : decode cX11_points 17 = .ok (.getfield 89, 3) := by decide +kernel
theorem dX11_points_20 : decode cX11_points 20 = .ok (.istore_n 2, 1) := by decide +kernel
theorem dX11_points_21 : decode cX11_points 21 = .ok (.aload_n 0, 1) := by decide +kernel
theorem dX11_points_22 : decode cX11_points 22 = .ok (.getfield 10, 3) := by decide +kernel
theorem dX11_points_25 : decode cX11_points 25 = .ok (.iload_n 1, 1) := by decide +kernel
theorem dX11_points_26 : decode cX11_points 26 = .ok (.invokevirtual 93, 3) := by decide +kernel
theorem dX11_points_29 : decode cX11_points 29 = .ok (.iload_n 2, 1) := by decide +kernel
theorem dX11_points_30 : decode cX11_points 30 = .ok (.ireturn, 1) := by decide +kernel
theorem dX11_place_0 : decode cX11_place 0 = .ok (.aload_n 0, 1) := by decide +kernel
theorem dX11_place_1 : decode cX11_place 1 = .ok (.iload_n 1, 1) := by decide +kernel
theorem dX11_place_2 : decode cX11_place 2 = .ok (.invokevirtual 97, 3) := by decide +kernel
theorem dX11_place_5 : decode cX11_place 5 = .ok (.ifCond .eq 14, 3) := by decide +kernel
theorem dX11_place_8 : decode cX11_place 8 = .ok (.iload_n 2, 1) := by decide +kernel
theorem dX11_place_9 : decode cX11_place 9 = .ok (.iconst 0, 1) := by decide +kernel
theorem dX11_place_10 : decode cX11_place 10 = .ok (.sipush 1000, 3) := by decide +kernel
theorem dX11_place_13 : decode cX11_place 13 = .ok (.invokestatic 85, 3) := by decide +kernel
theorem dX11_place_16 : decode cX11_place 16 = .ok (.ifCond .ne 6, 3) := by decide +kernel
theorem dX11_place_19 : decode cX11_place 19 = .ok (.bipush (-2), 2) := by decide +kernel
theorem dX11_place_21 : decode cX11_place 21 = .ok (.ireturn, 1) := by decide +kernel
theorem dX11_place_22 : decode cX11_place 22 = .ok (.aload_n 0, 1) := by decide +kernel
theorem dX11_place_23 : decode cX11_place 23 = .ok (.getfield 10, 3) := by decide +kernel
theorem dX11_place_26 : decode cX11_place 26 = .ok (.getfield 101, 3) := by decide +kernel
theorem dX11_place_29 : decode cX11_place 29 = .ok (.iload_n 1, 1) := by decide +kernel
theorem dX11_place_30 : decode cX11_place 30 = .ok (.iaload, 1) := by decide +kernel
theorem dX11_place_31 : decode cX11_place 31 = .ok (.istore_n 3, 1) := by decide +kernel
theorem dX11_place_32 : decode cX11_place 32 = .ok (.aload_n 0, 1) := by decide +kernel
theorem dX11_place_33 : decode cX11_place 33 = .ok (.getfield 10, 3) := by decide +kernel
theorem dX11_place_36 : decode cX11_place 36 = .ok (.getfield 101, 3) := by decide +kernel
theorem dX11_place_39 : decode cX11_place 39 = .ok (.iload_n 1, 1) := by decide +kernel
theorem dX11_place_40 : decode cX11_place 40 = .ok (.iload_n 2, 1) := by decide +kernel
theorem dX11_place_41 : decode cX11_place 41 = .ok (.iastore, 1) := by decide +kernel
theorem dX11_place_42 : decode cX11_place 42 = .ok (.iload_n 3, 1) := by decide +kernel
theorem dX11_place_43 : decode cX11_place 43 = .ok (.ireturn, 1) := by decide +kernel
theorem dX11_servers_0 : decode cX11_servers 0 = .ok (.iload_n 1, 1) := by decide +kernel
theorem dX11_servers_1 : decode cX11_servers 1 = .ok (.iconst 1, 1) := by decide +kernel
theorem dX11_servers_2 : decode cX11_servers 2 = .ok (.iconst 3, 1) := by decide +kernel
theorem dX11_servers_3 : decode cX11_servers 3 = .ok (.invokestatic 85, 3) := by decide +kernel
theorem dX11_servers_6 : decode cX11_servers 6 = .ok (.ifCond .ne 6, 3) := by decide +kernel
theorem dX11_servers_9 : decode cX11_servers 9 = .ok (.bipush (-2), 2) := by decide +kernel
theorem dX11_servers_11 : decode cX11_servers 11 = .ok (.ireturn, 1) := by decide +kernel
theorem dX11_servers_12 : decode cX11_servers 12 = .ok (.aload_n 0, 1) := by decide +kernel
theorem dX11_servers_13 : decode cX11_servers 13 = .ok (.getfield 10, 3) := by decide +kernel
theorem dX11_servers_16 : decode cX11_servers 16 = .ok (.getfield 105, 3) := by decide +kernel
theorem dX11_servers_19 : decode cX11_servers 19 = .ok (.istore_n 2, 1) := by decide +kernel
theorem dX11_servers_20 : decode cX11_servers 20 = .ok (.aload_n 0, 1) := by decide +kernel
theorem dX11_servers_21 : decode cX11_servers 21 = .ok (.getfield 10, 3) := by decide +kernel
theorem dX11_servers_24 : decode cX11_servers 24 = .ok (.iload_n 1, 1) := by decide +kernel
theorem dX11_servers_25 : decode cX11_servers 25 = .ok (.invokevirtual 108, 3) := by decide +kernel
theorem dX11_servers_28 : decode cX11_servers 28 = .ok (.iload_n 2, 1) := by decide +kernel
theorem dX11_servers_29 : decode cX11_servers 29 = .ok (.ireturn, 1) := by decide +kernel
theorem dX11_start_0 : decode cX11_start 0 = .ok (.aload_n 0, 1) := by decide +kernel
theorem dX11_start_1 : decode cX11_start 1 = .ok (.iload_n 1, 1) := by decide +kernel
theorem dX11_start_2 : decode cX11_start 2 = .ok (.invokevirtual 111, 3) := by decide +kernel
theorem dX11_start_5 : decode cX11_start 5 = .ok (.ifCond .eq 11, 3) := by decide +kernel
theorem dX11_start_8 : decode cX11_start 8 = .ok (.aload_n 0, 1) := by decide +kernel
theorem dX11_start_9 : decode cX11_start 9 = .ok (.iload_n 2, 1) := by decide +kernel
theorem dX11_start_10 : decode cX11_start 10 = .ok (.invokevirtual 97, 3) := by decide +kernel
theorem dX11_start_13 : decode cX11_start 13 = .ok (.ifCond .ne 6, 3) := by decide +kernel
theorem dX11_start_16 : decode cX11_start 16 = .ok (.bipush (-2), 2) := by decide +kernel
theorem dX11_start_18 : decode cX11_start 18 = .ok (.ireturn, 1) := by decide +kernel
theorem dX11_start_19 : decode cX11_start 19 = .ok (.aload_n 0, 1) := by decide +kernel
theorem dX11_start_20 : decode cX11_start 20 = .ok (.getfield 10, 3) := by decide +kernel
theorem dX11_start_23 : decode cX11_start 23 = .ok (.getfield 114, 3) := by decide +kernel
theorem dX11_start_26 : decode cX11_start 26 = .ok (.iload_n 1, 1) := by decide +kernel
theorem dX11_start_27 : decode cX11_start 27 = .ok (.iaload, 1) := by decide +kernel
theorem dX11_start_28 : decode cX11_start 28 = .ok (.istore_n 3, 1) := by decide +kernel
theorem dX11_start_29 : decode cX11_start 29 = .ok (.aload_n 0, 1) := by decide +kernel
theorem dX11_start_30 : decode cX11_start 30 = .ok (.getfield 10, 3) := by decide +kernel
theorem dX11_start_33 : decode cX11_start 33 = .ok (.getfield 114, 3) := by decide +kernel
theorem dX11_start_36 : decode cX11_start 36 = .ok (.iload_n 1, 1) := by decide +kernel
theorem dX11_start_37 : decode cX11_start 37 = .ok (.iload_n 2, 1) := by decide +kernel
theorem dX11_start_38 : decode cX11_start 38 = .ok (.iastore, 1) := by decide +kernel
theorem dX11_start_39 : decode cX11_start 39 = .ok (.iload_n 3, 1) := by decide +kernel
theorem dX11_start_40 : decode cX11_start 40 = .ok (.ireturn, 1) := by decide +kernel
theorem dX11_factor_0 : decode cX11_factor 0 = .ok (.iload_n 1, 1) := by decide +kernel
theorem dX11_factor_1 : decode cX11_factor 1 = .ok (.iconst 1, 1) := by decide +kernel
theorem dX11_factor_2 : decode cX11_factor 2 = .ok (.bipush 9, 2) := by decide +kernel
theorem dX11_factor_4 : decode cX11_factor 4 = .ok (.invokestatic 85, 3) := by decide +kernel
theorem dX11_factor_7 : decode cX11_factor 7 = .ok (.ifCond .ne 6, 3) := by decide +kernel
theorem dX11_factor_10 : decode cX11_factor 10 = .ok (.bipush (-2), 2) := by decide +kernel
theorem dX11_factor_12 : decode cX11_factor 12 = .ok (.ireturn, 1) := by decide +kernel
theorem dX11_factor_13 : decode cX11_factor 13 = .ok (.aload_n 0, 1) := by decide +kernel
theorem dX11_factor_14 : decode cX11_factor 14 = .ok (.getfield 10, 3) := by decide +kernel
theorem dX11_factor_17 : decode cX11_factor 17 = .ok (.getfield 117, 3) := by decide +kernel
theorem dX11_factor_20 : decode cX11_factor 20 = .ok (.istore_n 2, 1) := by decide +kernel
theorem dX11_factor_21 : decode cX11_factor 21 = .ok (.aload_n 0, 1) := by decide +kernel
theorem dX11_factor_22 : decode cX11_factor 22 = .ok (.getfield 10, 3) := by decide +kernel
theorem dX11_factor_25 : decode cX11_factor 25 = .ok (.iload_n 1, 1) := by decide +kernel
theorem dX11_factor_26 : decode cX11_factor 26 = .ok (.putfield 117, 3) := by decide +kernel
theorem dX11_factor_29 : decode cX11_factor 29 = .ok (.iload_n 2, 1) := by decide +kernel
theorem dX11_factor_30 : decode cX11_factor 30 = .ok (.ireturn, 1) := by decide +kernel
theorem dX11_asked_0 : decode cX11_asked 0 = .ok (.aload_n 0, 1) := by decide +kernel
theorem dX11_asked_1 : decode cX11_asked 1 = .ok (.invokevirtual 120, 3) := by decide +kernel
theorem dX11_asked_4 : decode cX11_asked 4 = .ok (.ifCond .ne 12, 3) := by decide +kernel
theorem dX11_asked_7 : decode cX11_asked 7 = .ok (.aload_n 0, 1) := by decide +kernel
theorem dX11_asked_8 : decode cX11_asked 8 = .ok (.getfield 19, 3) := by decide +kernel
theorem dX11_asked_11 : decode cX11_asked 11 = .ok (.iconst 1, 1) := by decide +kernel
theorem dX11_asked_12 : decode cX11_asked 12 = .ok (.invokevirtual 124, 3) := by decide +kernel
theorem dX11_asked_15 : decode cX11_asked 15 = .ok (.ireturn, 1) := by decide +kernel
theorem dX11_asked_16 : decode cX11_asked 16 = .ok (.aload_n 0, 1) := by decide +kernel
theorem dX11_asked_17 : decode cX11_asked 17 = .ok (.getfield 26, 3) := by decide +kernel
theorem dX11_asked_20 : decode cX11_asked 20 = .ok (.getfield 128, 3) := by decide +kernel
theorem dX11_asked_23 : decode cX11_asked 23 = .ok (.ireturn, 1) := by decide +kernel
theorem dX11_cost_0 : decode cX11_cost 0 = .ok (.iload_n 1, 1) := by decide +kernel
theorem dX11_cost_1 : decode cX11_cost 1 = .ok (.iconst 0, 1) := by decide +kernel
theorem dX11_cost_2 : decode cX11_cost 2 = .ok (.iconst 4, 1) := by decide +kernel
theorem dX11_cost_3 : decode cX11_cost 3 = .ok (.invokestatic 85, 3) := by decide +kernel
theorem dX11_cost_6 : decode cX11_cost 6 = .ok (.ifCond .ne 6, 3) := by decide +kernel
theorem dX11_cost_9 : decode cX11_cost 9 = .ok (.bipush (-2), 2) := by decide +kernel
theorem dX11_cost_11 : decode cX11_cost 11 = .ok (.ireturn, 1) := by decide +kernel
theorem dX11_cost_12 : decode cX11_cost 12 = .ok (.aload_n 0, 1) := by decide +kernel
theorem dX11_cost_13 : decode cX11_cost 13 = .ok (.invokevirtual 120, 3) := by decide +kernel
theorem dX11_cost_16 : decode cX11_cost 16 = .ok (.ifCond .ne 12, 3) := by decide +kernel
theorem dX11_cost_19 : decode cX11_cost 19 = .ok (.aload_n 0, 1) := by decide +kernel
theorem dX11_cost_20 : decode cX11_cost 20 = .ok (.getfield 19, 3) := by decide +kernel
theorem dX11_cost_23 : decode cX11_cost 23 = .ok (.iconst 1, 1) := by decide +kernel
theorem dX11_cost_24 : decode cX11_cost 24 = .ok (.invokevirtual 124, 3) := by decide +kernel
theorem dX11_cost_27 : decode cX11_cost 27 = .ok (.ireturn, 1) := by decide +kernel
theorem dX11_cost_28 : decode cX11_cost 28 = .ok (.aload_n 0, 1) := by decide +kernel
theorem dX11_cost_29 : decode cX11_cost 29 = .ok (.getfield 26, 3) := by decide +kernel
theorem dX11_cost_32 : decode cX11_cost 32 = .ok (.aload_n 0, 1) := by decide +kernel
theorem dX11_cost_33 : decode cX11_cost 33 = .ok (.getfield 58, 3) := by decide +kernel
theorem dX11_cost_36 : decode cX11_cost 36 = .ok (.iload_n 1, 1) := by decide +kernel
theorem dX11_cost_37 : decode cX11_cost 37 = .ok (.aaload, 1) := by decide +kernel
theorem dX11_cost_38 : decode cX11_cost 38 = .ok (.aload_n 0, 1) := by decide +kernel
theorem dX11_cost_39 : decode cX11_cost 39 = .ok (.getfield 26, 3) := by decide +kernel
theorem dX11_cost_42 : decode cX11_cost 42 = .ok (.getfield 128, 3) := by decide +kernel
theorem dX11_cost_45 : decode cX11_cost 45 = .ok (.invokevirtual 131, 3) := by decide +kernel
theorem dX11_cost_48 : decode cX11_cost 48 = .ok (.ireturn, 1) := by decide +kernel
theorem dX11_stands_0 : decode cX11_stands 0 = .ok (.iload_n 1, 1) := by decide +kernel
theorem dX11_stands_1 : decode cX11_stands 1 = .ok (.iconst 0, 1) := by decide +kernel
theorem dX11_stands_2 : decode cX11_stands 2 = .ok (.iconst 3, 1) := by decide +kernel
theorem dX11_stands_3 : decode cX11_stands 3 = .ok (.invokestatic 85, 3) := by decide +kernel
theorem dX11_stands_6 : decode cX11_stands 6 = .ok (.ifCond .eq 21, 3) := by decide +kernel
theorem dX11_stands_9 : decode cX11_stands 9 = .ok (.aload_n 0, 1) := by decide +kernel
theorem dX11_stands_10 : decode cX11_stands 10 = .ok (.iload_n 2, 1) := by decide +kernel
theorem dX11_stands_11 : decode cX11_stands 11 = .ok (.invokevirtual 111, 3) := by decide +kernel
theorem dX11_stands_14 : decode cX11_stands 14 = .ok (.ifCond .eq 13, 3) := by decide +kernel
theorem dX11_stands_17 : decode cX11_stands 17 = .ok (.iload_n 3, 1) := by decide +kernel
theorem dX11_stands_18 : decode cX11_stands 18 = .ok (.iconst 0, 1) := by decide +kernel
theorem dX11_stands_19 : decode cX11_stands 19 = .ok (.bipush 40, 2) := by decide +kernel
theorem dX11_stands_21 : decode cX11_stands 21 = .ok (.invokestatic 85, 3) := by decide +kernel
theorem dX11_stands_24 : decode cX11_stands 24 = .ok (.ifCond .ne 6, 3) := by decide +kernel
theorem dX11_stands_27 : decode cX11_stands 27 = .ok (.bipush (-2), 2) := by decide +kernel
theorem dX11_stands_29 : decode cX11_stands 29 = .ok (.ireturn, 1) := by decide +kernel
theorem dX11_stands_30 : decode cX11_stands 30 = .ok (.aload_n 0, 1) := by decide +kernel
theorem dX11_stands_31 : decode cX11_stands 31 = .ok (.invokevirtual 120, 3) := by decide +kernel
theorem dX11_stands_34 : decode cX11_stands 34 = .ok (.ifCond .ne 12, 3) := by decide +kernel
theorem dX11_stands_37 : decode cX11_stands 37 = .ok (.aload_n 0, 1) := by decide +kernel
theorem dX11_stands_38 : decode cX11_stands 38 = .ok (.getfield 19, 3) := by decide +kernel
theorem dX11_stands_41 : decode cX11_stands 41 = .ok (.iconst 1, 1) := by decide +kernel
theorem dX11_stands_42 : decode cX11_stands 42 = .ok (.invokevirtual 124, 3) := by decide +kernel
theorem dX11_stands_45 : decode cX11_stands 45 = .ok (.ireturn, 1) := by decide +kernel
theorem dX11_stands_46 : decode cX11_stands 46 = .ok (.aload_n 0, 1) := by decide +kernel
theorem dX11_stands_47 : decode cX11_stands 47 = .ok (.getfield 26, 3) := by decide +kernel
theorem dX11_stands_50 : decode cX11_stands 50 = .ok (.aload_n 0, 1) := by decide +kernel
theorem dX11_stands_51 : decode cX11_stands 51 = .ok (.getfield 58, 3) := by decide +kernel
theorem dX11_stands_54 : decode cX11_stands 54 = .ok (.iload_n 1, 1) := by decide +kernel
theorem dX11_stands_55 : decode cX11_stands 55 = .ok (.aaload, 1) := by decide +kernel
theorem dX11_stands_56 : decode cX11_stands 56 = .ok (.iload_n 3, 1) := by decide +kernel
theorem dX11_stands_57 : decode cX11_stands 57 = .ok (.invokevirtual 131, 3) := by decide +kernel
theorem dX11_stands_60 : decode cX11_stands 60 = .ok (.pop, 1) := by decide +kernel
theorem dX11_stands_61 : decode cX11_stands 61 = .ok (.aload_n 0, 1) := by decide +kernel
theorem dX11_stands_62 : decode cX11_stands 62 = .ok (.getfield 58, 3) := by decide +kernel
theorem dX11_stands_65 : decode cX11_stands 65 = .ok (.iload_n 1, 1) := by decide +kernel
theorem dX11_stands_66 : decode cX11_stands 66 = .ok (.aaload, 1) := by decide +kernel
theorem dX11_stands_67 : decode cX11_stands 67 = .ok (.getfield 135, 3) := by decide +kernel
theorem dX11_stands_70 : decode cX11_stands 70 = .ok (.iload_n 2, 1) := by decide +kernel
theorem dX11_stands_71 : decode cX11_stands 71 = .ok (.iaload, 1) := by decide +kernel
theorem dX11_stands_72 : decode cX11_stands 72 = .ok (.ireturn, 1) := by decide +kernel
theorem dX11_goes_0 : decode cX11_goes 0 = .ok (.iload_n 1, 1) := by decide +kernel
theorem dX11_goes_1 : decode cX11_goes 1 = .ok (.ifCond .eq 13, 3) := by decide +kernel
theorem dX11_goes_4 : decode cX11_goes 4 = .ok (.iload_n 1, 1) := by decide +kernel
theorem dX11_goes_5 : decode cX11_goes 5 = .ok (.iconst 2, 1) := by decide +kernel
theorem dX11_goes_6 : decode cX11_goes 6 = .ok (.if_icmp .eq 8, 3) := by decide +kernel
theorem dX11_goes_9 : decode cX11_goes 9 = .ok (.iload_n 1, 1) := by decide +kernel
theorem dX11_goes_10 : decode cX11_goes 10 = .ok (.iconst 3, 1) := by decide +kernel
theorem dX11_goes_11 : decode cX11_goes 11 = .ok (.if_icmp .ne 7, 3) := by decide +kernel
theorem dX11_goes_14 : decode cX11_goes 14 = .ok (.iconst 1, 1) := by decide +kernel
theorem dX11_goes_15 : decode cX11_goes 15 = .ok (.goto 4, 3) := by decide +kernel
theorem dX11_goes_18 : decode cX11_goes 18 = .ok (.iconst 0, 1) := by decide +kernel
theorem dX11_goes_19 : decode cX11_goes 19 = .ok (.istore_n 3, 1) := by decide +kernel
theorem dX11_goes_20 : decode cX11_goes 20 = .ok (.iload_n 3, 1) := by decide +kernel
theorem dX11_goes_21 : decode cX11_goes 21 = .ok (.ifCond .eq 13, 3) := by decide +kernel
theorem dX11_goes_24 : decode cX11_goes 24 = .ok (.iload_n 2, 1) := by decide +kernel
theorem dX11_goes_25 : decode cX11_goes 25 = .ok (.iconst 0, 1) := by decide +kernel
theorem dX11_goes_26 : decode cX11_goes 26 = .ok (.bipush 39, 2) := by decide +kernel
theorem dX11_goes_28 : decode cX11_goes 28 = .ok (.invokestatic 85, 3) := by decide +kernel
theorem dX11_goes_31 : decode cX11_goes 31 = .ok (.ifCond .ne 6, 3) := by decide +kernel
theorem dX11_goes_34 : decode cX11_goes 34 = .ok (.bipush (-2), 2) := by decide +kernel
theorem dX11_goes_36 : decode cX11_goes 36 = .ok (.ireturn, 1) := by decide +kernel
theorem dX11_goes_37 : decode cX11_goes 37 = .ok (.aload_n 0, 1) := by decide +kernel
theorem dX11_goes_38 : decode cX11_goes 38 = .ok (.invokevirtual 120, 3) := by decide +kernel
theorem dX11_goes_41 : decode cX11_goes 41 = .ok (.ifCond .ne 12, 3) := by decide +kernel
theorem dX11_goes_44 : decode cX11_goes 44 = .ok (.aload_n 0, 1) := by decide +kernel
theorem dX11_goes_45 : decode cX11_goes 45 = .ok (.getfield 19, 3) := by decide +kernel
theorem dX11_goes_48 : decode cX11_goes 48 = .ok (.iconst 1, 1) := by decide +kernel
theorem dX11_goes_49 : decode cX11_goes 49 = .ok (.invokevirtual 124, 3) := by decide +kernel
theorem dX11_goes_52 : decode cX11_goes 52 = .ok (.ireturn, 1) := by decide +kernel
theorem dX11_goes_53 : decode cX11_goes 53 = .ok (.aload_n 0, 1) := by decide +kernel
theorem dX11_goes_54 : decode cX11_goes 54 = .ok (.aload_n 0, 1) := by decide +kernel
theorem dX11_goes_55 : decode cX11_goes 55 = .ok (.getfield 58, 3) := by decide +kernel
theorem dX11_goes_58 : decode cX11_goes 58 = .ok (.iload_n 1, 1) := by decide +kernel
theorem dX11_goes_59 : decode cX11_goes 59 = .ok (.aaload, 1) := by decide +kernel
theorem dX11_goes_60 : decode cX11_goes 60 = .ok (.iload_n 2, 1) := by decide +kernel
theorem dX11_goes_61 : decode cX11_goes 61 = .ok (.invokevirtual 138, 3) := by decide +kernel
theorem dX11_goes_64 : decode cX11_goes 64 = .ok (.ireturn, 1) := by decide +kernel
theorem dX11_best_0 : decode cX11_best 0 = .ok (.aload_n 0, 1) := by decide +kernel
theorem dX11_best_1 : decode cX11_best 1 = .ok (.invokevirtual 120, 3) := by decide +kernel
theorem dX11_best_4 : decode cX11_best 4 = .ok (.ifCond .ne 12, 3) := by decide +kernel
theorem dX11_best_7 : decode cX11_best 7 = .ok (.aload_n 0, 1) := by decide +kernel
theorem dX11_best_8 : decode cX11_best 8 = .ok (.getfield 19, 3) := by decide +kernel
theorem dX11_best_11 : decode cX11_best 11 = .ok (.iconst 1, 1) := by decide +kernel
theorem dX11_best_12 : decode cX11_best 12 = .ok (.invokevirtual 124, 3) := by decide +kernel
theorem dX11_best_15 : decode cX11_best 15 = .ok (.ireturn, 1) := by decide +kernel
theorem dX11_best_16 : decode cX11_best 16 = .ok (.aload_n 0, 1) := by decide +kernel
theorem dX11_best_17 : decode cX11_best 17 = .ok (.getfield 65, 3) := by decide +kernel
theorem dX11_best_20 : decode cX11_best 20 = .ok (.aload_n 0, 1) := by decide +kernel
theorem dX11_best_21 : decode cX11_best 21 = .ok (.getfield 26, 3) := by decide +kernel
theorem dX11_best_24 : decode cX11_best 24 = .ok (.invokevirtual 141, 3) := by decide +kernel
theorem dX11_best_27 : decode cX11_best 27 = .ok (.ireturn, 1) := by decide +kernel
theorem dX11_way_0 : decode cX11_way 0 = .ok (.iload_n 1, 1) := by decide +kernel
theorem dX11_way_1 : decode cX11_way 1 = .ok (.iconst 0, 1) := by decide +kernel
theorem dX11_way_2 : decode cX11_way 2 = .ok (.bipush 39, 2) := by decide +kernel
theorem dX11_way_4 : decode cX11_way 4 = .ok (.invokestatic 85, 3) := by decide +kernel
theorem dX11_way_7 : decode cX11_way 7 = .ok (.ifCond .ne 6, 3) := by decide +kernel
theorem dX11_way_10 : decode cX11_way 10 = .ok (.bipush (-2), 2) := by decide +kernel
theorem dX11_way_12 : decode cX11_way 12 = .ok (.ireturn, 1) := by decide +kernel
theorem dX11_way_13 : decode cX11_way 13 = .ok (.aload_n 0, 1) := by decide +kernel
theorem dX11_way_14 : decode cX11_way 14 = .ok (.invokevirtual 120, 3) := by decide +kernel
theorem dX11_way_17 : decode cX11_way 17 = .ok (.ifCond .ne 12, 3) := by decide +kernel
theorem dX11_way_20 : decode cX11_way 20 = .ok (.aload_n 0, 1) := by decide +kernel
theorem dX11_way_21 : decode cX11_way 21 = .ok (.getfield 19, 3) := by decide +kernel
theorem dX11_way_24 : decode cX11_way 24 = .ok (.iconst 1, 1) := by decide +kernel
theorem dX11_way_25 : decode cX11_way 25 = .ok (.invokevirtual 124, 3) := by decide +kernel
theorem dX11_way_28 : decode cX11_way 28 = .ok (.ireturn, 1) := by decide +kernel
theorem dX11_way_29 : decode cX11_way 29 = .ok (.aload_n 0, 1) := by decide +kernel
theorem dX11_way_30 : decode cX11_way 30 = .ok (.getfield 65, 3) := by decide +kernel
theorem dX11_way_33 : decode cX11_way 33 = .ok (.aload_n 0, 1) := by decide +kernel
theorem dX11_way_34 : decode cX11_way 34 = .ok (.getfield 26, 3) := by decide +kernel
theorem dX11_way_37 : decode cX11_way 37 = .ok (.invokevirtual 141, 3) := by decide +kernel
theorem dX11_way_40 : decode cX11_way 40 = .ok (.pop, 1) := by decide +kernel
theorem dX11_way_41 : decode cX11_way 41 = .ok (.aload_n 0, 1) := by decide +kernel
theorem dX11_way_42 : decode cX11_way 42 = .ok (.aload_n 0, 1) := by decide +kernel
theorem dX11_way_43 : decode cX11_way 43 = .ok (.getfield 65, 3) := by decide +kernel
theorem dX11_way_46 : decode cX11_way 46 = .ok (.iload_n 1, 1) := by decide +kernel
theorem dX11_way_47 : decode cX11_way 47 = .ok (.invokevirtual 138, 3) := by decide +kernel
theorem dX11_way_50 : decode cX11_way 50 = .ok (.ireturn, 1) := by decide +kernel
theorem dX11_share_0 : decode cX11_share 0 = .ok (.iload_n 1, 1) := by decide +kernel
theorem dX11_share_1 : decode cX11_share 1 = .ok (.iconst 0, 1) := by decide +kernel
theorem dX11_share_2 : decode cX11_share 2 = .ok (.iconst 4, 1) := by decide +kernel
theorem dX11_share_3 : decode cX11_share 3 = .ok (.invokestatic 85, 3) := by decide +kernel
theorem dX11_share_6 : decode cX11_share 6 = .ok (.ifCond .ne 6, 3) := by decide +kernel
theorem dX11_share_9 : decode cX11_share 9 = .ok (.bipush (-2), 2) := by decide +kernel
theorem dX11_share_11 : decode cX11_share 11 = .ok (.ireturn, 1) := by decide +kernel
theorem dX11_share_12 : decode cX11_share 12 = .ok (.aload_n 0, 1) := by decide +kernel
theorem dX11_share_13 : decode cX11_share 13 = .ok (.invokevirtual 120, 3) := by decide +kernel
theorem dX11_share_16 : decode cX11_share 16 = .ok (.ifCond .ne 12, 3) := by decide +kernel
theorem dX11_share_19 : decode cX11_share 19 = .ok (.aload_n 0, 1) := by decide +kernel
theorem dX11_share_20 : decode cX11_share 20 = .ok (.getfield 19, 3) := by decide +kernel
theorem dX11_share_23 : decode cX11_share 23 = .ok (.iconst 1, 1) := by decide +kernel
theorem dX11_share_24 : decode cX11_share 24 = .ok (.invokevirtual 124, 3) := by decide +kernel
theorem dX11_share_27 : decode cX11_share 27 = .ok (.ireturn, 1) := by decide +kernel
theorem dX11_share_28 : decode cX11_share 28 = .ok (.aload_n 0, 1) := by decide +kernel
theorem dX11_share_29 : decode cX11_share 29 = .ok (.getfield 26, 3) := by decide +kernel
theorem dX11_share_32 : decode cX11_share 32 = .ok (.aload_n 0, 1) := by decide +kernel
theorem dX11_share_33 : decode cX11_share 33 = .ok (.getfield 58, 3) := by decide +kernel
theorem dX11_share_36 : decode cX11_share 36 = .ok (.iload_n 1, 1) := by decide +kernel
theorem dX11_share_37 : decode cX11_share 37 = .ok (.aaload, 1) := by decide +kernel
theorem dX11_share_38 : decode cX11_share 38 = .ok (.aload_n 0, 1) := by decide +kernel
theorem dX11_share_39 : decode cX11_share 39 = .ok (.getfield 26, 3) := by decide +kernel
theorem dX11_share_42 : decode cX11_share 42 = .ok (.getfield 128, 3) := by decide +kernel
theorem dX11_share_45 : decode cX11_share 45 = .ok (.invokevirtual 131, 3) := by decide +kernel
theorem dX11_share_48 : decode cX11_share 48 = .ok (.aload_n 0, 1) := by decide +kernel
theorem dX11_share_49 : decode cX11_share 49 = .ok (.getfield 65, 3) := by decide +kernel
theorem dX11_share_52 : decode cX11_share 52 = .ok (.aload_n 0, 1) := by decide +kernel
theorem dX11_share_53 : decode cX11_share 53 = .ok (.getfield 26, 3) := by decide +kernel
theorem dX11_share_56 : decode cX11_share 56 = .ok (.invokevirtual 141, 3) := by decide +kernel
theorem dX11_share_59 : decode cX11_share 59 = .ok (.invokestatic 145, 3) := by decide +kernel
theorem dX11_share_62 : decode cX11_share 62 = .ok (.ireturn, 1) := by decide +kernel
theorem dX11_work_0 : decode cX11_work 0 = .ok (.aload_n 0, 1) := by decide +kernel
theorem dX11_work_1 : decode cX11_work 1 = .ok (.iconst 0, 1) := by decide +kernel
theorem dX11_work_2 : decode cX11_work 2 = .ok (.iload_n 1, 1) := by decide +kernel
theorem dX11_work_3 : decode cX11_work 3 = .ok (.invokevirtual 149, 3) := by decide +kernel
theorem dX11_work_6 : decode cX11_work 6 = .ok (.ifCond .eq 21, 3) := by decide +kernel
theorem dX11_work_9 : decode cX11_work 9 = .ok (.aload_n 0, 1) := by decide +kernel
theorem dX11_work_10 : decode cX11_work 10 = .ok (.iconst 1, 1) := by decide +kernel
theorem dX11_work_11 : decode cX11_work 11 = .ok (.iload_n 2, 1) := by decide +kernel
theorem dX11_work_12 : decode cX11_work 12 = .ok (.invokevirtual 149, 3) := by decide +kernel
theorem dX11_work_15 : decode cX11_work 15 = .ok (.ifCond .eq 12, 3) := by decide +kernel
theorem dX11_work_18 : decode cX11_work 18 = .ok (.aload_n 0, 1) := by decide +kernel
theorem dX11_work_19 : decode cX11_work 19 = .ok (.iconst 2, 1) := by decide +kernel
theorem dX11_work_20 : decode cX11_work 20 = .ok (.iload_n 3, 1) := by decide +kernel
theorem dX11_work_21 : decode cX11_work 21 = .ok (.invokevirtual 149, 3) := by decide +kernel
theorem dX11_work_24 : decode cX11_work 24 = .ok (.ifCond .ne 6, 3) := by decide +kernel
theorem dX11_work_27 : decode cX11_work 27 = .ok (.bipush (-2), 2) := by decide +kernel
theorem dX11_work_29 : decode cX11_work 29 = .ok (.ireturn, 1) := by decide +kernel
theorem dX11_work_30 : decode cX11_work 30 = .ok (.iload 4, 2) := by decide +kernel
theorem dX11_work_32 : decode cX11_work 32 = .ok (.iconst 0, 1) := by decide +kernel
theorem dX11_work_33 : decode cX11_work 33 = .ok (.bipush 40, 2) := by decide +kernel
theorem dX11_work_35 : decode cX11_work 35 = .ok (.invokestatic 85, 3) := by decide +kernel
theorem dX11_work_38 : decode cX11_work 38 = .ok (.ifCond .ne 6, 3) := by decide +kernel
theorem dX11_work_41 : decode cX11_work 41 = .ok (.bipush (-2), 2) := by decide +kernel
theorem dX11_work_43 : decode cX11_work 43 = .ok (.ireturn, 1) := by decide +kernel
theorem dX11_work_44 : decode cX11_work 44 = .ok (.aload_n 0, 1) := by decide +kernel
theorem dX11_work_45 : decode cX11_work 45 = .ok (.invokevirtual 120, 3) := by decide +kernel
theorem dX11_work_48 : decode cX11_work 48 = .ok (.ifCond .ne 12, 3) := by decide +kernel
theorem dX11_work_51 : decode cX11_work 51 = .ok (.aload_n 0, 1) := by decide +kernel
theorem dX11_work_52 : decode cX11_work 52 = .ok (.getfield 19, 3) := by decide +kernel
theorem dX11_work_55 : decode cX11_work 55 = .ok (.iconst 1, 1) := by decide +kernel
theorem dX11_work_56 : decode cX11_work 56 = .ok (.invokevirtual 124, 3) := by decide +kernel
theorem dX11_work_59 : decode cX11_work 59 = .ok (.ireturn, 1) := by decide +kernel
theorem dX11_work_60 : decode cX11_work 60 = .ok (.aload_n 0, 1) := by decide +kernel
theorem dX11_work_61 : decode cX11_work 61 = .ok (.getfield 26, 3) := by decide +kernel
theorem dX11_work_64 : decode cX11_work 64 = .ok (.aload_n 0, 1) := by decide +kernel
theorem dX11_work_65 : decode cX11_work 65 = .ok (.getfield 35, 3) := by decide +kernel
theorem dX11_work_68 : decode cX11_work 68 = .ok (.iload 4, 2) := by decide +kernel
theorem dX11_work_70 : decode cX11_work 70 = .ok (.invokevirtual 131, 3) := by decide +kernel
theorem dX11_work_73 : decode cX11_work 73 = .ok (.pop, 1) := by decide +kernel
theorem dX11_work_74 : decode cX11_work 74 = .ok (.aload_n 0, 1) := by decide +kernel
theorem dX11_work_75 : decode cX11_work 75 = .ok (.getfield 35, 3) := by decide +kernel
theorem dX11_work_78 : decode cX11_work 78 = .ok (.aload_n 0, 1) := by decide +kernel
theorem dX11_work_79 : decode cX11_work 79 = .ok (.getfield 10, 3) := by decide +kernel
theorem dX11_work_82 : decode cX11_work 82 = .ok (.iload_n 1, 1) := by decide +kernel
theorem dX11_work_83 : decode cX11_work 83 = .ok (.iload_n 2, 1) := by decide +kernel
theorem dX11_work_84 : decode cX11_work 84 = .ok (.iload_n 3, 1) := by decide +kernel
theorem dX11_work_85 : decode cX11_work 85 = .ok (.invokevirtual 153, 3) := by decide +kernel
theorem dX11_work_88 : decode cX11_work 88 = .ok (.invokevirtual 157, 3) := by decide +kernel
theorem dX11_work_91 : decode cX11_work 91 = .ok (.ireturn, 1) := by decide +kernel
theorem dX11_trusts_0 : decode cX11_trusts 0 = .ok (.iload_n 1, 1) := by decide +kernel
theorem dX11_trusts_1 : decode cX11_trusts 1 = .ok (.iconst 0, 1) := by decide +kernel
theorem dX11_trusts_2 : decode cX11_trusts 2 = .ok (.bipush 40, 2) := by decide +kernel
theorem dX11_trusts_4 : decode cX11_trusts 4 = .ok (.invokestatic 85, 3) := by decide +kernel
theorem dX11_trusts_7 : decode cX11_trusts 7 = .ok (.ifCond .ne 6, 3) := by decide +kernel
theorem dX11_trusts_10 : decode cX11_trusts 10 = .ok (.bipush (-2), 2) := by decide +kernel
theorem dX11_trusts_12 : decode cX11_trusts 12 = .ok (.ireturn, 1) := by decide +kernel
theorem dX11_trusts_13 : decode cX11_trusts 13 = .ok (.aload_n 0, 1) := by decide +kernel
theorem dX11_trusts_14 : decode cX11_trusts 14 = .ok (.invokevirtual 120, 3) := by decide +kernel
theorem dX11_trusts_17 : decode cX11_trusts 17 = .ok (.ifCond .ne 12, 3) := by decide +kernel
theorem dX11_trusts_20 : decode cX11_trusts 20 = .ok (.aload_n 0, 1) := by decide +kernel
theorem dX11_trusts_21 : decode cX11_trusts 21 = .ok (.getfield 19, 3) := by decide +kernel
theorem dX11_trusts_24 : decode cX11_trusts 24 = .ok (.iconst 1, 1) := by decide +kernel
theorem dX11_trusts_25 : decode cX11_trusts 25 = .ok (.invokevirtual 124, 3) := by decide +kernel
theorem dX11_trusts_28 : decode cX11_trusts 28 = .ok (.ireturn, 1) := by decide +kernel
theorem dX11_trusts_29 : decode cX11_trusts 29 = .ok (.aload_n 0, 1) := by decide +kernel
theorem dX11_trusts_30 : decode cX11_trusts 30 = .ok (.getfield 26, 3) := by decide +kernel
theorem dX11_trusts_33 : decode cX11_trusts 33 = .ok (.aload_n 0, 1) := by decide +kernel
theorem dX11_trusts_34 : decode cX11_trusts 34 = .ok (.getfield 44, 3) := by decide +kernel
theorem dX11_trusts_37 : decode cX11_trusts 37 = .ok (.iload_n 1, 1) := by decide +kernel
theorem dX11_trusts_38 : decode cX11_trusts 38 = .ok (.invokevirtual 131, 3) := by decide +kernel
theorem dX11_trusts_41 : decode cX11_trusts 41 = .ok (.pop, 1) := by decide +kernel
theorem dX11_trusts_42 : decode cX11_trusts 42 = .ok (.aload_n 0, 1) := by decide +kernel
theorem dX11_trusts_43 : decode cX11_trusts 43 = .ok (.getfield 44, 3) := by decide +kernel
theorem dX11_trusts_46 : decode cX11_trusts 46 = .ok (.getfield 160, 3) := by decide +kernel
theorem dX11_trusts_49 : decode cX11_trusts 49 = .ok (.ireturn, 1) := by decide +kernel
theorem dX11_worst_0 : decode cX11_worst 0 = .ok (.iload_n 1, 1) := by decide +kernel
theorem dX11_worst_1 : decode cX11_worst 1 = .ok (.iconst 0, 1) := by decide +kernel
theorem dX11_worst_2 : decode cX11_worst 2 = .ok (.iconst 2, 1) := by decide +kernel
theorem dX11_worst_3 : decode cX11_worst 3 = .ok (.invokestatic 85, 3) := by decide +kernel
theorem dX11_worst_6 : decode cX11_worst 6 = .ok (.ifCond .eq 12, 3) := by decide +kernel
theorem dX11_worst_9 : decode cX11_worst 9 = .ok (.iload_n 2, 1) := by decide +kernel
theorem dX11_worst_10 : decode cX11_worst 10 = .ok (.iconst 1, 1) := by decide +kernel
theorem dX11_worst_11 : decode cX11_worst 11 = .ok (.iconst 3, 1) := by decide +kernel
theorem dX11_worst_12 : decode cX11_worst 12 = .ok (.invokestatic 85, 3) := by decide +kernel
theorem dX11_worst_15 : decode cX11_worst 15 = .ok (.ifCond .ne 6, 3) := by decide +kernel
theorem dX11_worst_18 : decode cX11_worst 18 = .ok (.bipush (-2), 2) := by decide +kernel
theorem dX11_worst_20 : decode cX11_worst 20 = .ok (.ireturn, 1) := by decide +kernel
theorem dX11_worst_21 : decode cX11_worst 21 = .ok (.aload_n 0, 1) := by decide +kernel
theorem dX11_worst_22 : decode cX11_worst 22 = .ok (.getfield 81, 3) := by decide +kernel
theorem dX11_worst_25 : decode cX11_worst 25 = .ok (.iload_n 1, 1) := by decide +kernel
theorem dX11_worst_26 : decode cX11_worst 26 = .ok (.iload_n 2, 1) := by decide +kernel
theorem dX11_worst_27 : decode cX11_worst 27 = .ok (.invokevirtual 163, 3) := by decide +kernel
theorem dX11_worst_30 : decode cX11_worst 30 = .ok (.aload_n 0, 1) := by decide +kernel
theorem dX11_worst_31 : decode cX11_worst 31 = .ok (.getfield 81, 3) := by decide +kernel
theorem dX11_worst_34 : decode cX11_worst 34 = .ok (.getfield 167, 3) := by decide +kernel
theorem dX11_worst_37 : decode cX11_worst 37 = .ok (.ireturn, 1) := by decide +kernel
theorem dX11_worstShare_0 : decode cX11_worstShare 0 = .ok (.iload_n 1, 1) := by decide +kernel
theorem dX11_worstShare_1 : decode cX11_worstShare 1 = .ok (.iconst 0, 1) := by decide +kernel
theorem dX11_worstShare_2 : decode cX11_worstShare 2 = .ok (.iconst 2, 1) := by decide +kernel
theorem dX11_worstShare_3 : decode cX11_worstShare 3 = .ok (.invokestatic 85, 3) := by decide +kernel
theorem dX11_worstShare_6 : decode cX11_worstShare 6 = .ok (.ifCond .eq 12, 3) := by decide +kernel
theorem dX11_worstShare_9 : decode cX11_worstShare 9 = .ok (.iload_n 2, 1) := by decide +kernel
theorem dX11_worstShare_10 : decode cX11_worstShare 10 = .ok (.iconst 1, 1) := by decide +kernel
theorem dX11_worstShare_11 : decode cX11_worstShare 11 = .ok (.iconst 3, 1) := by decide +kernel
theorem dX11_worstShare_12 : decode cX11_worstShare 12 = .ok (.invokestatic 85, 3) := by decide +kernel
theorem dX11_worstShare_15 : decode cX11_worstShare 15 = .ok (.ifCond .ne 6, 3) := by decide +kernel
theorem dX11_worstShare_18 : decode cX11_worstShare 18 = .ok (.bipush (-2), 2) := by decide +kernel
theorem dX11_worstShare_20 : decode cX11_worstShare 20 = .ok (.ireturn, 1) := by decide +kernel
theorem dX11_worstShare_21 : decode cX11_worstShare 21 = .ok (.aload_n 0, 1) := by decide +kernel
theorem dX11_worstShare_22 : decode cX11_worstShare 22 = .ok (.getfield 81, 3) := by decide +kernel
theorem dX11_worstShare_25 : decode cX11_worstShare 25 = .ok (.iload_n 1, 1) := by decide +kernel
theorem dX11_worstShare_26 : decode cX11_worstShare 26 = .ok (.iload_n 2, 1) := by decide +kernel
theorem dX11_worstShare_27 : decode cX11_worstShare 27 = .ok (.invokevirtual 163, 3) := by decide +kernel
theorem dX11_worstShare_30 : decode cX11_worstShare 30 = .ok (.aload_n 0, 1) := by decide +kernel
theorem dX11_worstShare_31 : decode cX11_worstShare 31 = .ok (.getfield 81, 3) := by decide +kernel
theorem dX11_worstShare_34 : decode cX11_worstShare 34 = .ok (.getfield 170, 3) := by decide +kernel
theorem dX11_worstShare_37 : decode cX11_worstShare 37 = .ok (.aload_n 0, 1) := by decide +kernel
theorem dX11_worstShare_38 : decode cX11_worstShare 38 = .ok (.getfield 81, 3) := by decide +kernel
theorem dX11_worstShare_41 : decode cX11_worstShare 41 = .ok (.getfield 173, 3) := by decide +kernel
theorem dX11_worstShare_44 : decode cX11_worstShare 44 = .ok (.invokestatic 145, 3) := by decide +kernel
theorem dX11_worstShare_47 : decode cX11_worstShare 47 = .ok (.ireturn, 1) := by decide +kernel
theorem dX11_longing_0 : decode cX11_longing 0 = .ok (.iload_n 1, 1) := by decide +kernel
theorem dX11_longing_1 : decode cX11_longing 1 = .ok (.iconst 0, 1) := by decide +kernel
theorem dX11_longing_2 : decode cX11_longing 2 = .ok (.bipush 40, 2) := by decide +kernel
theorem dX11_longing_4 : decode cX11_longing 4 = .ok (.invokestatic 85, 3) := by decide +kernel
theorem dX11_longing_7 : decode cX11_longing 7 = .ok (.ifCond .ne 6, 3) := by decide +kernel
theorem dX11_longing_10 : decode cX11_longing 10 = .ok (.bipush (-2), 2) := by decide +kernel
theorem dX11_longing_12 : decode cX11_longing 12 = .ok (.ireturn, 1) := by decide +kernel
theorem dX11_longing_13 : decode cX11_longing 13 = .ok (.aload_n 0, 1) := by decide +kernel
theorem dX11_longing_14 : decode cX11_longing 14 = .ok (.invokevirtual 120, 3) := by decide +kernel
theorem dX11_longing_17 : decode cX11_longing 17 = .ok (.ifCond .ne 12, 3) := by decide +kernel
theorem dX11_longing_20 : decode cX11_longing 20 = .ok (.aload_n 0, 1) := by decide +kernel
theorem dX11_longing_21 : decode cX11_longing 21 = .ok (.getfield 19, 3) := by decide +kernel
theorem dX11_longing_24 : decode cX11_longing 24 = .ok (.iconst 1, 1) := by decide +kernel
theorem dX11_longing_25 : decode cX11_longing 25 = .ok (.invokevirtual 124, 3) := by decide +kernel
theorem dX11_longing_28 : decode cX11_longing 28 = .ok (.ireturn, 1) := by decide +kernel
theorem dX11_longing_29 : decode cX11_longing 29 = .ok (.aload_n 0, 1) := by decide +kernel
theorem dX11_longing_30 : decode cX11_longing 30 = .ok (.getfield 74, 3) := by decide +kernel
theorem dX11_longing_33 : decode cX11_longing 33 = .ok (.aload_n 0, 1) := by decide +kernel
theorem dX11_longing_34 : decode cX11_longing 34 = .ok (.getfield 26, 3) := by decide +kernel
theorem dX11_longing_37 : decode cX11_longing 37 = .ok (.iload_n 1, 1) := by decide +kernel
theorem dX11_longing_38 : decode cX11_longing 38 = .ok (.invokevirtual 176, 3) := by decide +kernel
theorem dX11_longing_41 : decode cX11_longing 41 = .ok (.ireturn, 1) := by decide +kernel
theorem dX11_pays_0 : decode cX11_pays 0 = .ok (.aload_n 0, 1) := by decide +kernel
theorem dX11_pays_1 : decode cX11_pays 1 = .ok (.invokevirtual 120, 3) := by decide +kernel
theorem dX11_pays_4 : decode cX11_pays 4 = .ok (.ifCond .ne 12, 3) := by decide +kernel
theorem dX11_pays_7 : decode cX11_pays 7 = .ok (.aload_n 0, 1) := by decide +kernel
theorem dX11_pays_8 : decode cX11_pays 8 = .ok (.getfield 19, 3) := by decide +kernel
theorem dX11_pays_11 : decode cX11_pays 11 = .ok (.iconst 1, 1) := by decide +kernel
theorem dX11_pays_12 : decode cX11_pays 12 = .ok (.invokevirtual 124, 3) := by decide +kernel
theorem dX11_pays_15 : decode cX11_pays 15 = .ok (.ireturn, 1) := by decide +kernel
theorem dX11_pays_16 : decode cX11_pays 16 = .ok (.aload_n 0, 1) := by decide +kernel
theorem dX11_pays_17 : decode cX11_pays 17 = .ok (.getfield 74, 3) := by decide +kernel
theorem dX11_pays_20 : decode cX11_pays 20 = .ok (.aload_n 0, 1) := by decide +kernel
theorem dX11_pays_21 : decode cX11_pays 21 = .ok (.getfield 26, 3) := by decide +kernel
theorem dX11_pays_24 : decode cX11_pays 24 = .ok (.invokevirtual 180, 3) := by decide +kernel
theorem dX11_pays_27 : decode cX11_pays 27 = .ok (.ireturn, 1) := by decide +kernel
theorem dX11_sheet_0 : decode cX11_sheet 0 = .ok (.iload_n 1, 1) := by decide +kernel
theorem dX11_sheet_1 : decode cX11_sheet 1 = .ok (.invokestatic 183, 3) := by decide +kernel
theorem dX11_sheet_4 : decode cX11_sheet 4 = .ok (.ifCond .eq 16, 3) := by decide +kernel
theorem dX11_sheet_7 : decode cX11_sheet 7 = .ok (.iload_n 2, 1) := by decide +kernel
theorem dX11_sheet_8 : decode cX11_sheet 8 = .ok (.invokestatic 186, 3) := by decide +kernel
theorem dX11_sheet_11 : decode cX11_sheet 11 = .ok (.ifCond .eq 9, 3) := by decide +kernel
theorem dX11_sheet_14 : decode cX11_sheet 14 = .ok (.iload_n 3, 1) := by decide +kernel
theorem dX11_sheet_15 : decode cX11_sheet 15 = .ok (.bipush 40, 2) := by decide +kernel
theorem dX11_sheet_17 : decode cX11_sheet 17 = .ok (.if_icmp .le 6, 3) := by decide +kernel
theorem dX11_sheet_20 : decode cX11_sheet 20 = .ok (.bipush (-2), 2) := by decide +kernel
theorem dX11_sheet_22 : decode cX11_sheet 22 = .ok (.ireturn, 1) := by decide +kernel
theorem dX11_sheet_23 : decode cX11_sheet 23 = .ok (.iload_n 3, 1) := by decide +kernel
theorem dX11_sheet_24 : decode cX11_sheet 24 = .ok (.ifCond .ge 12, 3) := by decide +kernel
theorem dX11_sheet_27 : decode cX11_sheet 27 = .ok (.aload_n 0, 1) := by decide +kernel
theorem dX11_sheet_28 : decode cX11_sheet 28 = .ok (.getfield 19, 3) := by decide +kernel
theorem dX11_sheet_31 : decode cX11_sheet 31 = .ok (.iconst 5, 1) := by decide +kernel
theorem dX11_sheet_32 : decode cX11_sheet 32 = .ok (.invokevirtual 124, 3) := by decide +kernel
theorem dX11_sheet_35 : decode cX11_sheet 35 = .ok (.ireturn, 1) := by decide +kernel
theorem dX11_sheet_36 : decode cX11_sheet 36 = .ok (.aload_n 0, 1) := by decide +kernel
theorem dX11_sheet_37 : decode cX11_sheet 37 = .ok (.getfield 19, 3) := by decide +kernel
theorem dX11_sheet_40 : decode cX11_sheet 40 = .ok (.iload_n 1, 1) := by decide +kernel
theorem dX11_sheet_41 : decode cX11_sheet 41 = .ok (.iload_n 2, 1) := by decide +kernel
theorem dX11_sheet_42 : decode cX11_sheet 42 = .ok (.iload_n 3, 1) := by decide +kernel
theorem dX11_sheet_43 : decode cX11_sheet 43 = .ok (.invokevirtual 189, 3) := by decide +kernel
theorem dX11_sheet_46 : decode cX11_sheet 46 = .ok (.iload_n 3, 1) := by decide +kernel
theorem dX11_sheet_47 : decode cX11_sheet 47 = .ok (.ireturn, 1) := by decide +kernel
theorem dX11_lose_0 : decode cX11_lose 0 = .ok (.iload_n 1, 1) := by decide +kernel
theorem dX11_lose_1 : decode cX11_lose 1 = .ok (.invokestatic 183, 3) := by decide +kernel
theorem dX11_lose_4 : decode cX11_lose 4 = .ok (.ifCond .ne 6, 3) := by decide +kernel
theorem dX11_lose_7 : decode cX11_lose 7 = .ok (.bipush (-2), 2) := by decide +kernel
theorem dX11_lose_9 : decode cX11_lose 9 = .ok (.ireturn, 1) := by decide +kernel
theorem dX11_lose_10 : decode cX11_lose 10 = .ok (.aload_n 0, 1) := by decide +kernel
theorem dX11_lose_11 : decode cX11_lose 11 = .ok (.getfield 19, 3) := by decide +kernel
theorem dX11_lose_14 : decode cX11_lose 14 = .ok (.iload_n 1, 1) := by decide +kernel
theorem dX11_lose_15 : decode cX11_lose 15 = .ok (.invokevirtual 193, 3) := by decide +kernel
theorem dX11_lose_18 : decode cX11_lose 18 = .ok (.ifCond .eq 12, 3) := by decide +kernel
theorem dX11_lose_21 : decode cX11_lose 21 = .ok (.aload_n 0, 1) := by decide +kernel
theorem dX11_lose_22 : decode cX11_lose 22 = .ok (.getfield 19, 3) := by decide +kernel
theorem dX11_lose_25 : decode cX11_lose 25 = .ok (.iconst 1, 1) := by decide +kernel
theorem dX11_lose_26 : decode cX11_lose 26 = .ok (.invokevirtual 124, 3) := by decide +kernel
theorem dX11_lose_29 : decode cX11_lose 29 = .ok (.ireturn, 1) := by decide +kernel
theorem dX11_lose_30 : decode cX11_lose 30 = .ok (.aload_n 0, 1) := by decide +kernel
theorem dX11_lose_31 : decode cX11_lose 31 = .ok (.getfield 19, 3) := by decide +kernel
theorem dX11_lose_34 : decode cX11_lose 34 = .ok (.getfield 196, 3) := by decide +kernel
theorem dX11_lose_37 : decode cX11_lose 37 = .ok (.iload_n 1, 1) := by decide +kernel
theorem dX11_lose_38 : decode cX11_lose 38 = .ok (.iaload, 1) := by decide +kernel
theorem dX11_lose_39 : decode cX11_lose 39 = .ok (.istore_n 2, 1) := by decide +kernel
theorem dX11_lose_40 : decode cX11_lose 40 = .ok (.aload_n 0, 1) := by decide +kernel
theorem dX11_lose_41 : decode cX11_lose 41 = .ok (.getfield 19, 3) := by decide +kernel
theorem dX11_lose_44 : decode cX11_lose 44 = .ok (.iload_n 1, 1) := by decide +kernel
theorem dX11_lose_45 : decode cX11_lose 45 = .ok (.invokevirtual 199, 3) := by decide +kernel
theorem dX11_lose_48 : decode cX11_lose 48 = .ok (.iload_n 2, 1) := by decide +kernel
theorem dX11_lose_49 : decode cX11_lose 49 = .ok (.ireturn, 1) := by decide +kernel
theorem dX11_put_0 : decode cX11_put 0 = .ok (.aload_n 0, 1) := by decide +kernel
theorem dX11_put_1 : decode cX11_put 1 = .ok (.iload_n 1, 1) := by decide +kernel
theorem dX11_put_2 : decode cX11_put 2 = .ok (.iload_n 2, 1) := by decide +kernel
theorem dX11_put_3 : decode cX11_put 3 = .ok (.iload_n 3, 1) := by decide +kernel
theorem dX11_put_4 : decode cX11_put 4 = .ok (.invokevirtual 202, 3) := by decide +kernel
theorem dX11_put_7 : decode cX11_put 7 = .ok (.istore 5, 2) := by decide +kernel
theorem dX11_put_9 : decode cX11_put 9 = .ok (.iload 5, 2) := by decide +kernel
theorem dX11_put_11 : decode cX11_put 11 = .ok (.ifCond .eq 6, 3) := by decide +kernel
theorem dX11_put_14 : decode cX11_put 14 = .ok (.iload 5, 2) := by decide +kernel
theorem dX11_put_16 : decode cX11_put 16 = .ok (.ireturn, 1) := by decide +kernel
theorem dX11_put_17 : decode cX11_put 17 = .ok (.aload_n 0, 1) := by decide +kernel
theorem dX11_put_18 : decode cX11_put 18 = .ok (.getfield 19, 3) := by decide +kernel
theorem dX11_put_21 : decode cX11_put 21 = .ok (.iload_n 1, 1) := by decide +kernel
theorem dX11_put_22 : decode cX11_put 22 = .ok (.iload_n 3, 1) := by decide +kernel
theorem dX11_put_23 : decode cX11_put 23 = .ok (.iload 4, 2) := by decide +kernel
theorem dX11_put_25 : decode cX11_put 25 = .ok (.invokevirtual 205, 3) := by decide +kernel
theorem dX11_put_28 : decode cX11_put 28 = .ok (.iconst 1, 1) := by decide +kernel
theorem dX11_put_29 : decode cX11_put 29 = .ok (.ireturn, 1) := by decide +kernel
theorem dX11_get_0 : decode cX11_get 0 = .ok (.aload_n 0, 1) := by decide +kernel
theorem dX11_get_1 : decode cX11_get 1 = .ok (.iload_n 1, 1) := by decide +kernel
theorem dX11_get_2 : decode cX11_get 2 = .ok (.iload_n 2, 1) := by decide +kernel
theorem dX11_get_3 : decode cX11_get 3 = .ok (.iload_n 3, 1) := by decide +kernel
theorem dX11_get_4 : decode cX11_get 4 = .ok (.invokevirtual 202, 3) := by decide +kernel
theorem dX11_get_7 : decode cX11_get 7 = .ok (.ifCond .eq 6, 3) := by decide +kernel
theorem dX11_get_10 : decode cX11_get 10 = .ok (.ldc 208, 2) := by decide +kernel
theorem dX11_get_12 : decode cX11_get 12 = .ok (.ireturn, 1) := by decide +kernel
theorem dX11_get_13 : decode cX11_get 13 = .ok (.aload_n 0, 1) := by decide +kernel
theorem dX11_get_14 : decode cX11_get 14 = .ok (.getfield 19, 3) := by decide +kernel
theorem dX11_get_17 : decode cX11_get 17 = .ok (.getfield 209, 3) := by decide +kernel
theorem dX11_get_20 : decode cX11_get 20 = .ok (.iload_n 1, 1) := by decide +kernel
theorem dX11_get_21 : decode cX11_get 21 = .ok (.aaload, 1) := by decide +kernel
theorem dX11_get_22 : decode cX11_get 22 = .ok (.iload_n 3, 1) := by decide +kernel
theorem dX11_get_23 : decode cX11_get 23 = .ok (.iaload, 1) := by decide +kernel
theorem dX11_get_24 : decode cX11_get 24 = .ok (.ireturn, 1) := by decide +kernel
theorem dX11_copy_0 : decode cX11_copy 0 = .ok (.iload_n 1, 1) := by decide +kernel
theorem dX11_copy_1 : decode cX11_copy 1 = .ok (.invokestatic 183, 3) := by decide +kernel
theorem dX11_copy_4 : decode cX11_copy 4 = .ok (.ifCond .eq 10, 3) := by decide +kernel
theorem dX11_copy_7 : decode cX11_copy 7 = .ok (.iload_n 3, 1) := by decide +kernel
theorem dX11_copy_8 : decode cX11_copy 8 = .ok (.invokestatic 183, 3) := by decide +kernel
theorem dX11_copy_11 : decode cX11_copy 11 = .ok (.ifCond .ne 6, 3) := by decide +kernel
theorem dX11_copy_14 : decode cX11_copy 14 = .ok (.bipush (-2), 2) := by decide +kernel
theorem dX11_copy_16 : decode cX11_copy 16 = .ok (.ireturn, 1) := by decide +kernel
theorem dX11_copy_17 : decode cX11_copy 17 = .ok (.aload_n 0, 1) := by decide +kernel
theorem dX11_copy_18 : decode cX11_copy 18 = .ok (.getfield 19, 3) := by decide +kernel
theorem dX11_copy_21 : decode cX11_copy 21 = .ok (.iload_n 1, 1) := by decide +kernel
theorem dX11_copy_22 : decode cX11_copy 22 = .ok (.invokevirtual 193, 3) := by decide +kernel
theorem dX11_copy_25 : decode cX11_copy 25 = .ok (.ifCond .ne 14, 3) := by decide +kernel
theorem dX11_copy_28 : decode cX11_copy 28 = .ok (.aload_n 0, 1) := by decide +kernel
theorem dX11_copy_29 : decode cX11_copy 29 = .ok (.getfield 19, 3) := by decide +kernel
theorem dX11_copy_32 : decode cX11_copy 32 = .ok (.iload_n 3, 1) := by decide +kernel
theorem dX11_copy_33 : decode cX11_copy 33 = .ok (.invokevirtual 193, 3) := by decide +kernel
theorem dX11_copy_36 : decode cX11_copy 36 = .ok (.ifCond .eq 12, 3) := by decide +kernel
theorem dX11_copy_39 : decode cX11_copy 39 = .ok (.aload_n 0, 1) := by decide +kernel
theorem dX11_copy_40 : decode cX11_copy 40 = .ok (.getfield 19, 3) := by decide +kernel
theorem dX11_copy_43 : decode cX11_copy 43 = .ok (.iconst 1, 1) := by decide +kernel
theorem dX11_copy_44 : decode cX11_copy 44 = .ok (.invokevirtual 124, 3) := by decide +kernel
theorem dX11_copy_47 : decode cX11_copy 47 = .ok (.ireturn, 1) := by decide +kernel
theorem dX11_copy_48 : decode cX11_copy 48 = .ok (.aload_n 0, 1) := by decide +kernel
theorem dX11_copy_49 : decode cX11_copy 49 = .ok (.getfield 19, 3) := by decide +kernel
theorem dX11_copy_52 : decode cX11_copy 52 = .ok (.getfield 213, 3) := by decide +kernel
theorem dX11_copy_55 : decode cX11_copy 55 = .ok (.iload_n 1, 1) := by decide +kernel
theorem dX11_copy_56 : decode cX11_copy 56 = .ok (.iaload, 1) := by decide +kernel
theorem dX11_copy_57 : decode cX11_copy 57 = .ok (.aload_n 0, 1) := by decide +kernel
theorem dX11_copy_58 : decode cX11_copy 58 = .ok (.getfield 19, 3) := by decide +kernel
theorem dX11_copy_61 : decode cX11_copy 61 = .ok (.getfield 213, 3) := by decide +kernel
theorem dX11_copy_64 : decode cX11_copy 64 = .ok (.iload_n 3, 1) := by decide +kernel
theorem dX11_copy_65 : decode cX11_copy 65 = .ok (.iaload, 1) := by decide +kernel
theorem dX11_copy_66 : decode cX11_copy 66 = .ok (.if_icmp .eq 12, 3) := by decide +kernel
theorem dX11_copy_69 : decode cX11_copy 69 = .ok (.aload_n 0, 1) := by decide +kernel
theorem dX11_copy_70 : decode cX11_copy 70 = .ok (.getfield 19, 3) := by decide +kernel
theorem dX11_copy_73 : decode cX11_copy 73 = .ok (.iconst 4, 1) := by decide +kernel
theorem dX11_copy_74 : decode cX11_copy 74 = .ok (.invokevirtual 124, 3) := by decide +kernel
theorem dX11_copy_77 : decode cX11_copy 77 = .ok (.ireturn, 1) := by decide +kernel
theorem dX11_copy_78 : decode cX11_copy 78 = .ok (.aload_n 0, 1) := by decide +kernel
theorem dX11_copy_79 : decode cX11_copy 79 = .ok (.getfield 19, 3) := by decide +kernel
theorem dX11_copy_82 : decode cX11_copy 82 = .ok (.iload_n 1, 1) := by decide +kernel
theorem dX11_copy_83 : decode cX11_copy 83 = .ok (.iload_n 2, 1) := by decide +kernel
theorem dX11_copy_84 : decode cX11_copy 84 = .ok (.iload 5, 2) := by decide +kernel
theorem dX11_copy_86 : decode cX11_copy 86 = .ok (.invokevirtual 216, 3) := by decide +kernel
theorem dX11_copy_89 : decode cX11_copy 89 = .ok (.ifCond .eq 18, 3) := by decide +kernel
theorem dX11_copy_92 : decode cX11_copy 92 = .ok (.aload_n 0, 1) := by decide +kernel
theorem dX11_copy_93 : decode cX11_copy 93 = .ok (.getfield 19, 3) := by decide +kernel
theorem dX11_copy_96 : decode cX11_copy 96 = .ok (.iload_n 3, 1) := by decide +kernel
theorem dX11_copy_97 : decode cX11_copy 97 = .ok (.iload 4, 2) := by decide +kernel
theorem dX11_copy_99 : decode cX11_copy 99 = .ok (.iload 5, 2) := by decide +kernel
theorem dX11_copy_101 : decode cX11_copy 101 = .ok (.invokevirtual 216, 3) := by decide +kernel
theorem dX11_copy_104 : decode cX11_copy 104 = .ok (.ifCond .ne 12, 3) := by decide +kernel
theorem dX11_copy_107 : decode cX11_copy 107 = .ok (.aload_n 0, 1) := by decide +kernel
theorem dX11_copy_108 : decode cX11_copy 108 = .ok (.getfield 19, 3) := by decide +kernel
theorem dX11_copy_111 : decode cX11_copy 111 = .ok (.iconst 2, 1) := by decide +kernel
theorem dX11_copy_112 : decode cX11_copy 112 = .ok (.invokevirtual 124, 3) := by decide +kernel
theorem dX11_copy_115 : decode cX11_copy 115 = .ok (.ireturn, 1) := by decide +kernel
theorem dX11_copy_116 : decode cX11_copy 116 = .ok (.aload_n 0, 1) := by decide +kernel
theorem dX11_copy_117 : decode cX11_copy 117 = .ok (.getfield 19, 3) := by decide +kernel
theorem dX11_copy_120 : decode cX11_copy 120 = .ok (.getfield 209, 3) := by decide +kernel
theorem dX11_copy_123 : decode cX11_copy 123 = .ok (.iload_n 1, 1) := by decide +kernel
theorem dX11_copy_124 : decode cX11_copy 124 = .ok (.aaload, 1) := by decide +kernel
theorem dX11_copy_125 : decode cX11_copy 125 = .ok (.iload_n 2, 1) := by decide +kernel
theorem dX11_copy_126 : decode cX11_copy 126 = .ok (.aload_n 0, 1) := by decide +kernel
theorem dX11_copy_127 : decode cX11_copy 127 = .ok (.getfield 19, 3) := by decide +kernel
theorem dX11_copy_130 : decode cX11_copy 130 = .ok (.getfield 209, 3) := by decide +kernel
end
section
theorem dX11_copy_133 : decode cX11_copy 133 = .ok (.iload_n 3, 1) := by decide +kernel
theorem dX11_copy_134 : decode cX11_copy 134 = .ok (.aaload, 1) := by decide +kernel
theorem dX11_copy_135 : decode cX11_copy 135 = .ok (.iload 4, 2) := by decide +kernel
theorem dX11_copy_137 : decode cX11_copy 137 = .ok (.iload 5, 2) := by decide +kernel
theorem dX11_copy_139 : decode cX11_copy 139 = .ok (.invokestatic 219, 3) := by decide +kernel
theorem dX11_copy_142 : decode cX11_copy 142 = .ok (.iconst 1, 1) := by decide +kernel
theorem dX11_copy_143 : decode cX11_copy 143 = .ok (.ireturn, 1) := by decide +kernel
theorem dX11_hint_0 : decode cX11_hint 0 = .ok (.aload_n 0, 1) := by decide +kernel
theorem dX11_hint_1 : decode cX11_hint 1 = .ok (.invokevirtual 120, 3) := by decide +kernel
theorem dX11_hint_4 : decode cX11_hint 4 = .ok (.ifCond .eq 14, 3) := by decide +kernel
theorem dX11_hint_7 : decode cX11_hint 7 = .ok (.aload_n 0, 1) := by decide +kernel
theorem dX11_hint_8 : decode cX11_hint 8 = .ok (.getfield 19, 3) := by decide +kernel
theorem dX11_hint_11 : decode cX11_hint 11 = .ok (.iconst 1, 1) := by decide +kernel
theorem dX11_hint_12 : decode cX11_hint 12 = .ok (.invokevirtual 193, 3) := by decide +kernel
theorem dX11_hint_15 : decode cX11_hint 15 = .ok (.ifCond .eq 12, 3) := by decide +kernel
theorem dX11_hint_18 : decode cX11_hint 18 = .ok (.aload_n 0, 1) := by decide +kernel
theorem dX11_hint_19 : decode cX11_hint 19 = .ok (.getfield 19, 3) := by decide +kernel
theorem dX11_hint_22 : decode cX11_hint 22 = .ok (.iconst 1, 1) := by decide +kernel
theorem dX11_hint_23 : decode cX11_hint 23 = .ok (.invokevirtual 124, 3) := by decide +kernel
theorem dX11_hint_26 : decode cX11_hint 26 = .ok (.ireturn, 1) := by decide +kernel
theorem dX11_hint_27 : decode cX11_hint 27 = .ok (.aload_n 0, 1) := by decide +kernel
theorem dX11_hint_28 : decode cX11_hint 28 = .ok (.getfield 65, 3) := by decide +kernel
theorem dX11_hint_31 : decode cX11_hint 31 = .ok (.aload_n 0, 1) := by decide +kernel
theorem dX11_hint_32 : decode cX11_hint 32 = .ok (.getfield 26, 3) := by decide +kernel
theorem dX11_hint_35 : decode cX11_hint 35 = .ok (.invokevirtual 141, 3) := by decide +kernel
theorem dX11_hint_38 : decode cX11_hint 38 = .ok (.pop, 1) := by decide +kernel
theorem dX11_hint_39 : decode cX11_hint 39 = .ok (.aload_n 0, 1) := by decide +kernel
theorem dX11_hint_40 : decode cX11_hint 40 = .ok (.getfield 65, 3) := by decide +kernel
theorem dX11_hint_43 : decode cX11_hint 43 = .ok (.invokevirtual 225, 3) := by decide +kernel
theorem dX11_hint_46 : decode cX11_hint 46 = .ok (.aload_n 0, 1) := by decide +kernel
theorem dX11_hint_47 : decode cX11_hint 47 = .ok (.getfield 19, 3) := by decide +kernel
theorem dX11_hint_50 : decode cX11_hint 50 = .ok (.getfield 196, 3) := by decide +kernel
theorem dX11_hint_53 : decode cX11_hint 53 = .ok (.iconst 1, 1) := by decide +kernel
theorem dX11_hint_54 : decode cX11_hint 54 = .ok (.iaload, 1) := by decide +kernel
theorem dX11_hint_55 : decode cX11_hint 55 = .ok (.aload_n 0, 1) := by decide +kernel
theorem dX11_hint_56 : decode cX11_hint 56 = .ok (.getfield 26, 3) := by decide +kernel
theorem dX11_hint_59 : decode cX11_hint 59 = .ok (.getfield 128, 3) := by decide +kernel
theorem dX11_hint_62 : decode cX11_hint 62 = .ok (.invokestatic 228, 3) := by decide +kernel
theorem dX11_hint_65 : decode cX11_hint 65 = .ok (.istore_n 1, 1) := by decide +kernel
theorem dX11_hint_66 : decode cX11_hint 66 = .ok (.iconst 0, 1) := by decide +kernel
theorem dX11_hint_67 : decode cX11_hint 67 = .ok (.istore_n 2, 1) := by decide +kernel
theorem dX11_hint_68 : decode cX11_hint 68 = .ok (.iload_n 2, 1) := by decide +kernel
theorem dX11_hint_69 : decode cX11_hint 69 = .ok (.iload_n 1, 1) := by decide +kernel
theorem dX11_hint_70 : decode cX11_hint 70 = .ok (.if_icmp .ge 42, 3) := by decide +kernel
theorem dX11_hint_73 : decode cX11_hint 73 = .ok (.aload_n 0, 1) := by decide +kernel
theorem dX11_hint_74 : decode cX11_hint 74 = .ok (.getfield 65, 3) := by decide +kernel
theorem dX11_hint_77 : decode cX11_hint 77 = .ok (.aload_n 0, 1) := by decide +kernel
theorem dX11_hint_78 : decode cX11_hint 78 = .ok (.getfield 26, 3) := by decide +kernel
theorem dX11_hint_81 : decode cX11_hint 81 = .ok (.getfield 233, 3) := by decide +kernel
theorem dX11_hint_84 : decode cX11_hint 84 = .ok (.iload_n 2, 1) := by decide +kernel
theorem dX11_hint_85 : decode cX11_hint 85 = .ok (.iaload, 1) := by decide +kernel
theorem dX11_hint_86 : decode cX11_hint 86 = .ok (.iconst (-1), 1) := by decide +kernel
theorem dX11_hint_87 : decode cX11_hint 87 = .ok (.invokevirtual 236, 3) := by decide +kernel
theorem dX11_hint_90 : decode cX11_hint 90 = .ok (.aload_n 0, 1) := by decide +kernel
theorem dX11_hint_91 : decode cX11_hint 91 = .ok (.getfield 19, 3) := by decide +kernel
theorem dX11_hint_94 : decode cX11_hint 94 = .ok (.iconst 1, 1) := by decide +kernel
theorem dX11_hint_95 : decode cX11_hint 95 = .ok (.iload_n 2, 1) := by decide +kernel
theorem dX11_hint_96 : decode cX11_hint 96 = .ok (.aload_n 0, 1) := by decide +kernel
theorem dX11_hint_97 : decode cX11_hint 97 = .ok (.getfield 65, 3) := by decide +kernel
theorem dX11_hint_100 : decode cX11_hint 100 = .ok (.getfield 239, 3) := by decide +kernel
theorem dX11_hint_103 : decode cX11_hint 103 = .ok (.invokevirtual 205, 3) := by decide +kernel
theorem dX11_hint_106 : decode cX11_hint 106 = .ok (.iinc 2 1, 3) := by decide +kernel
theorem dX11_hint_109 : decode cX11_hint 109 = .ok (.goto (-41), 3) := by decide +kernel
theorem dX11_hint_112 : decode cX11_hint 112 = .ok (.iload_n 1, 1) := by decide +kernel
theorem dX11_hint_113 : decode cX11_hint 113 = .ok (.ireturn, 1) := by decide +kernel
theorem dX11_count_0 : decode cX11_count 0 = .ok (.iload_n 1, 1) := by decide +kernel
theorem dX11_count_1 : decode cX11_count 1 = .ok (.tableswitch 75 0 4 #[35, 43, 51, 59, 67], 35) := by decide +kernel
theorem dX11_count_36 : decode cX11_count 36 = .ok (.aload_n 0, 1) := by decide +kernel
theorem dX11_count_37 : decode cX11_count 37 = .ok (.getfield 10, 3) := by decide +kernel
theorem dX11_count_40 : decode cX11_count 40 = .ok (.getfield 89, 3) := by decide +kernel
theorem dX11_count_43 : decode cX11_count 43 = .ok (.ireturn, 1) := by decide +kernel
theorem dX11_count_44 : decode cX11_count 44 = .ok (.aload_n 0, 1) := by decide +kernel
theorem dX11_count_45 : decode cX11_count 45 = .ok (.getfield 10, 3) := by decide +kernel
theorem dX11_count_48 : decode cX11_count 48 = .ok (.getfield 105, 3) := by decide +kernel
theorem dX11_count_51 : decode cX11_count 51 = .ok (.ireturn, 1) := by decide +kernel
theorem dX11_count_52 : decode cX11_count 52 = .ok (.aload_n 0, 1) := by decide +kernel
theorem dX11_count_53 : decode cX11_count 53 = .ok (.getfield 10, 3) := by decide +kernel
theorem dX11_count_56 : decode cX11_count 56 = .ok (.getfield 117, 3) := by decide +kernel
theorem dX11_count_59 : decode cX11_count 59 = .ok (.ireturn, 1) := by decide +kernel
theorem dX11_count_60 : decode cX11_count 60 = .ok (.aload_n 0, 1) := by decide +kernel
theorem dX11_count_61 : decode cX11_count 61 = .ok (.getfield 19, 3) := by decide +kernel
theorem dX11_count_64 : decode cX11_count 64 = .ok (.getfield 242, 3) := by decide +kernel
theorem dX11_count_67 : decode cX11_count 67 = .ok (.ireturn, 1) := by decide +kernel
theorem dX11_count_68 : decode cX11_count 68 = .ok (.aload_n 0, 1) := by decide +kernel
theorem dX11_count_69 : decode cX11_count 69 = .ok (.getfield 19, 3) := by decide +kernel
theorem dX11_count_72 : decode cX11_count 72 = .ok (.invokevirtual 245, 3) := by decide +kernel
theorem dX11_count_75 : decode cX11_count 75 = .ok (.ireturn, 1) := by decide +kernel
theorem dX11_count_76 : decode cX11_count 76 = .ok (.bipush (-2), 2) := by decide +kernel
theorem dX11_count_78 : decode cX11_count 78 = .ok (.ireturn, 1) := by decide +kernel
theorem dX11_digest_0 : decode cX11_digest 0 = .ok (.ldc2_w 249, 3) := by decide +kernel
theorem dX11_digest_3 : decode cX11_digest 3 = .ok (.lstore_n 1, 1) := by decide +kernel
theorem dX11_digest_4 : decode cX11_digest 4 = .ok (.ldc2_w 251, 3) := by decide +kernel
theorem dX11_digest_7 : decode cX11_digest 7 = .ok (.lload_n 1, 1) := by decide +kernel
theorem dX11_digest_8 : decode cX11_digest 8 = .ok (.lmul, 1) := by decide +kernel
theorem dX11_digest_9 : decode cX11_digest 9 = .ok (.aload_n 0, 1) := by decide +kernel
theorem dX11_digest_10 : decode cX11_digest 10 = .ok (.getfield 10, 3) := by decide +kernel
theorem dX11_digest_13 : decode cX11_digest 13 = .ok (.getfield 89, 3) := by decide +kernel
theorem dX11_digest_16 : decode cX11_digest 16 = .ok (.i2l, 1) := by decide +kernel
theorem dX11_digest_17 : decode cX11_digest 17 = .ok (.ladd, 1) := by decide +kernel
theorem dX11_digest_18 : decode cX11_digest 18 = .ok (.lstore_n 1, 1) := by decide +kernel
theorem dX11_digest_19 : decode cX11_digest 19 = .ok (.ldc2_w 251, 3) := by decide +kernel
theorem dX11_digest_22 : decode cX11_digest 22 = .ok (.lload_n 1, 1) := by decide +kernel
theorem dX11_digest_23 : decode cX11_digest 23 = .ok (.lmul, 1) := by decide +kernel
theorem dX11_digest_24 : decode cX11_digest 24 = .ok (.aload_n 0, 1) := by decide +kernel
theorem dX11_digest_25 : decode cX11_digest 25 = .ok (.getfield 10, 3) := by decide +kernel
theorem dX11_digest_28 : decode cX11_digest 28 = .ok (.getfield 105, 3) := by decide +kernel
theorem dX11_digest_31 : decode cX11_digest 31 = .ok (.i2l, 1) := by decide +kernel
theorem dX11_digest_32 : decode cX11_digest 32 = .ok (.ladd, 1) := by decide +kernel
theorem dX11_digest_33 : decode cX11_digest 33 = .ok (.lstore_n 1, 1) := by decide +kernel
theorem dX11_digest_34 : decode cX11_digest 34 = .ok (.ldc2_w 251, 3) := by decide +kernel
theorem dX11_digest_37 : decode cX11_digest 37 = .ok (.lload_n 1, 1) := by decide +kernel
theorem dX11_digest_38 : decode cX11_digest 38 = .ok (.lmul, 1) := by decide +kernel
theorem dX11_digest_39 : decode cX11_digest 39 = .ok (.aload_n 0, 1) := by decide +kernel
theorem dX11_digest_40 : decode cX11_digest 40 = .ok (.getfield 10, 3) := by decide +kernel
theorem dX11_digest_43 : decode cX11_digest 43 = .ok (.getfield 117, 3) := by decide +kernel
theorem dX11_digest_46 : decode cX11_digest 46 = .ok (.i2l, 1) := by decide +kernel
theorem dX11_digest_47 : decode cX11_digest 47 = .ok (.ladd, 1) := by decide +kernel
theorem dX11_digest_48 : decode cX11_digest 48 = .ok (.lstore_n 1, 1) := by decide +kernel
theorem dX11_digest_49 : decode cX11_digest 49 = .ok (.ldc2_w 251, 3) := by decide +kernel
theorem dX11_digest_52 : decode cX11_digest 52 = .ok (.lload_n 1, 1) := by decide +kernel
theorem dX11_digest_53 : decode cX11_digest 53 = .ok (.lmul, 1) := by decide +kernel
theorem dX11_digest_54 : decode cX11_digest 54 = .ok (.aload_n 0, 1) := by decide +kernel
theorem dX11_digest_55 : decode cX11_digest 55 = .ok (.getfield 19, 3) := by decide +kernel
theorem dX11_digest_58 : decode cX11_digest 58 = .ok (.invokevirtual 245, 3) := by decide +kernel
theorem dX11_digest_61 : decode cX11_digest 61 = .ok (.i2l, 1) := by decide +kernel
theorem dX11_digest_62 : decode cX11_digest 62 = .ok (.ladd, 1) := by decide +kernel
theorem dX11_digest_63 : decode cX11_digest 63 = .ok (.lstore_n 1, 1) := by decide +kernel
theorem dX11_digest_64 : decode cX11_digest 64 = .ok (.iconst 0, 1) := by decide +kernel
theorem dX11_digest_65 : decode cX11_digest 65 = .ok (.istore_n 3, 1) := by decide +kernel
theorem dX11_digest_66 : decode cX11_digest 66 = .ok (.iload_n 3, 1) := by decide +kernel
theorem dX11_digest_67 : decode cX11_digest 67 = .ok (.aload_n 0, 1) := by decide +kernel
theorem dX11_digest_68 : decode cX11_digest 68 = .ok (.getfield 10, 3) := by decide +kernel
theorem dX11_digest_71 : decode cX11_digest 71 = .ok (.getfield 89, 3) := by decide +kernel
theorem dX11_digest_74 : decode cX11_digest 74 = .ok (.if_icmp .ge 26, 3) := by decide +kernel
theorem dX11_digest_77 : decode cX11_digest 77 = .ok (.ldc2_w 251, 3) := by decide +kernel
theorem dX11_digest_80 : decode cX11_digest 80 = .ok (.lload_n 1, 1) := by decide +kernel
theorem dX11_digest_81 : decode cX11_digest 81 = .ok (.lmul, 1) := by decide +kernel
theorem dX11_digest_82 : decode cX11_digest 82 = .ok (.aload_n 0, 1) := by decide +kernel
theorem dX11_digest_83 : decode cX11_digest 83 = .ok (.getfield 10, 3) := by decide +kernel
theorem dX11_digest_86 : decode cX11_digest 86 = .ok (.getfield 101, 3) := by decide +kernel
theorem dX11_digest_89 : decode cX11_digest 89 = .ok (.iload_n 3, 1) := by decide +kernel
theorem dX11_digest_90 : decode cX11_digest 90 = .ok (.iaload, 1) := by decide +kernel
theorem dX11_digest_91 : decode cX11_digest 91 = .ok (.i2l, 1) := by decide +kernel
theorem dX11_digest_92 : decode cX11_digest 92 = .ok (.ladd, 1) := by decide +kernel
theorem dX11_digest_93 : decode cX11_digest 93 = .ok (.lstore_n 1, 1) := by decide +kernel
theorem dX11_digest_94 : decode cX11_digest 94 = .ok (.iinc 3 1, 3) := by decide +kernel
theorem dX11_digest_97 : decode cX11_digest 97 = .ok (.goto (-31), 3) := by decide +kernel
theorem dX11_digest_100 : decode cX11_digest 100 = .ok (.iconst 0, 1) := by decide +kernel
theorem dX11_digest_101 : decode cX11_digest 101 = .ok (.istore_n 3, 1) := by decide +kernel
theorem dX11_digest_102 : decode cX11_digest 102 = .ok (.iload_n 3, 1) := by decide +kernel
theorem dX11_digest_103 : decode cX11_digest 103 = .ok (.aload_n 0, 1) := by decide +kernel
theorem dX11_digest_104 : decode cX11_digest 104 = .ok (.getfield 10, 3) := by decide +kernel
theorem dX11_digest_107 : decode cX11_digest 107 = .ok (.getfield 105, 3) := by decide +kernel
theorem dX11_digest_110 : decode cX11_digest 110 = .ok (.if_icmp .ge 26, 3) := by decide +kernel
theorem dX11_digest_113 : decode cX11_digest 113 = .ok (.ldc2_w 251, 3) := by decide +kernel
theorem dX11_digest_116 : decode cX11_digest 116 = .ok (.lload_n 1, 1) := by decide +kernel
theorem dX11_digest_117 : decode cX11_digest 117 = .ok (.lmul, 1) := by decide +kernel
theorem dX11_digest_118 : decode cX11_digest 118 = .ok (.aload_n 0, 1) := by decide +kernel
theorem dX11_digest_119 : decode cX11_digest 119 = .ok (.getfield 10, 3) := by decide +kernel
theorem dX11_digest_122 : decode cX11_digest 122 = .ok (.getfield 114, 3) := by decide +kernel
theorem dX11_digest_125 : decode cX11_digest 125 = .ok (.iload_n 3, 1) := by decide +kernel
theorem dX11_digest_126 : decode cX11_digest 126 = .ok (.iaload, 1) := by decide +kernel
theorem dX11_digest_127 : decode cX11_digest 127 = .ok (.i2l, 1) := by decide +kernel
theorem dX11_digest_128 : decode cX11_digest 128 = .ok (.ladd, 1) := by decide +kernel
theorem dX11_digest_129 : decode cX11_digest 129 = .ok (.lstore_n 1, 1) := by decide +kernel
theorem dX11_digest_130 : decode cX11_digest 130 = .ok (.iinc 3 1, 3) := by decide +kernel
theorem dX11_digest_133 : decode cX11_digest 133 = .ok (.goto (-31), 3) := by decide +kernel
theorem dX11_digest_136 : decode cX11_digest 136 = .ok (.aload_n 0, 1) := by decide +kernel
theorem dX11_digest_137 : decode cX11_digest 137 = .ok (.invokevirtual 120, 3) := by decide +kernel
theorem dX11_digest_140 : decode cX11_digest 140 = .ok (.ifCond .ne 5, 3) := by decide +kernel
theorem dX11_digest_143 : decode cX11_digest 143 = .ok (.lload_n 1, 1) := by decide +kernel
theorem dX11_digest_144 : decode cX11_digest 144 = .ok (.lreturn, 1) := by decide +kernel
theorem dX11_digest_145 : decode cX11_digest 145 = .ok (.ldc2_w 251, 3) := by decide +kernel
theorem dX11_digest_148 : decode cX11_digest 148 = .ok (.lload_n 1, 1) := by decide +kernel
theorem dX11_digest_149 : decode cX11_digest 149 = .ok (.lmul, 1) := by decide +kernel
theorem dX11_digest_150 : decode cX11_digest 150 = .ok (.aload_n 0, 1) := by decide +kernel
theorem dX11_digest_151 : decode cX11_digest 151 = .ok (.getfield 26, 3) := by decide +kernel
theorem dX11_digest_154 : decode cX11_digest 154 = .ok (.getfield 128, 3) := by decide +kernel
theorem dX11_digest_157 : decode cX11_digest 157 = .ok (.i2l, 1) := by decide +kernel
theorem dX11_digest_158 : decode cX11_digest 158 = .ok (.ladd, 1) := by decide +kernel
theorem dX11_digest_159 : decode cX11_digest 159 = .ok (.lstore_n 1, 1) := by decide +kernel
theorem dX11_digest_160 : decode cX11_digest 160 = .ok (.iconst 0, 1) := by decide +kernel
theorem dX11_digest_161 : decode cX11_digest 161 = .ok (.istore_n 3, 1) := by decide +kernel
theorem dX11_digest_162 : decode cX11_digest 162 = .ok (.iload_n 3, 1) := by decide +kernel
theorem dX11_digest_163 : decode cX11_digest 163 = .ok (.iconst 4, 1) := by decide +kernel
theorem dX11_digest_164 : decode cX11_digest 164 = .ok (.if_icmp .gt 37, 3) := by decide +kernel
theorem dX11_digest_167 : decode cX11_digest 167 = .ok (.ldc2_w 251, 3) := by decide +kernel
theorem dX11_digest_170 : decode cX11_digest 170 = .ok (.lload_n 1, 1) := by decide +kernel
theorem dX11_digest_171 : decode cX11_digest 171 = .ok (.lmul, 1) := by decide +kernel
theorem dX11_digest_172 : decode cX11_digest 172 = .ok (.aload_n 0, 1) := by decide +kernel
theorem dX11_digest_173 : decode cX11_digest 173 = .ok (.getfield 26, 3) := by decide +kernel
theorem dX11_digest_176 : decode cX11_digest 176 = .ok (.aload_n 0, 1) := by decide +kernel
theorem dX11_digest_177 : decode cX11_digest 177 = .ok (.getfield 58, 3) := by decide +kernel
theorem dX11_digest_180 : decode cX11_digest 180 = .ok (.iload_n 3, 1) := by decide +kernel
theorem dX11_digest_181 : decode cX11_digest 181 = .ok (.aaload, 1) := by decide +kernel
theorem dX11_digest_182 : decode cX11_digest 182 = .ok (.aload_n 0, 1) := by decide +kernel
theorem dX11_digest_183 : decode cX11_digest 183 = .ok (.getfield 26, 3) := by decide +kernel
theorem dX11_digest_186 : decode cX11_digest 186 = .ok (.getfield 128, 3) := by decide +kernel
theorem dX11_digest_189 : decode cX11_digest 189 = .ok (.invokevirtual 131, 3) := by decide +kernel
theorem dX11_digest_192 : decode cX11_digest 192 = .ok (.i2l, 1) := by decide +kernel
theorem dX11_digest_193 : decode cX11_digest 193 = .ok (.ladd, 1) := by decide +kernel
theorem dX11_digest_194 : decode cX11_digest 194 = .ok (.lstore_n 1, 1) := by decide +kernel
theorem dX11_digest_195 : decode cX11_digest 195 = .ok (.iinc 3 1, 3) := by decide +kernel
theorem dX11_digest_198 : decode cX11_digest 198 = .ok (.goto (-36), 3) := by decide +kernel
theorem dX11_digest_201 : decode cX11_digest 201 = .ok (.ldc2_w 251, 3) := by decide +kernel
theorem dX11_digest_204 : decode cX11_digest 204 = .ok (.lload_n 1, 1) := by decide +kernel
theorem dX11_digest_205 : decode cX11_digest 205 = .ok (.lmul, 1) := by decide +kernel
theorem dX11_digest_206 : decode cX11_digest 206 = .ok (.aload_n 0, 1) := by decide +kernel
theorem dX11_digest_207 : decode cX11_digest 207 = .ok (.getfield 65, 3) := by decide +kernel
theorem dX11_digest_210 : decode cX11_digest 210 = .ok (.aload_n 0, 1) := by decide +kernel
theorem dX11_digest_211 : decode cX11_digest 211 = .ok (.getfield 26, 3) := by decide +kernel
theorem dX11_digest_214 : decode cX11_digest 214 = .ok (.invokevirtual 141, 3) := by decide +kernel
theorem dX11_digest_217 : decode cX11_digest 217 = .ok (.i2l, 1) := by decide +kernel
theorem dX11_digest_218 : decode cX11_digest 218 = .ok (.ladd, 1) := by decide +kernel
theorem dX11_digest_219 : decode cX11_digest 219 = .ok (.lstore_n 1, 1) := by decide +kernel
theorem dX11_digest_220 : decode cX11_digest 220 = .ok (.ldc2_w 251, 3) := by decide +kernel
theorem dX11_digest_223 : decode cX11_digest 223 = .ok (.lload_n 1, 1) := by decide +kernel
theorem dX11_digest_224 : decode cX11_digest 224 = .ok (.lmul, 1) := by decide +kernel
theorem dX11_digest_225 : decode cX11_digest 225 = .ok (.aload_n 0, 1) := by decide +kernel
theorem dX11_digest_226 : decode cX11_digest 226 = .ok (.getfield 74, 3) := by decide +kernel
theorem dX11_digest_229 : decode cX11_digest 229 = .ok (.aload_n 0, 1) := by decide +kernel
theorem dX11_digest_230 : decode cX11_digest 230 = .ok (.getfield 26, 3) := by decide +kernel
theorem dX11_digest_233 : decode cX11_digest 233 = .ok (.invokevirtual 180, 3) := by decide +kernel
theorem dX11_digest_236 : decode cX11_digest 236 = .ok (.i2l, 1) := by decide +kernel
theorem dX11_digest_237 : decode cX11_digest 237 = .ok (.ladd, 1) := by decide +kernel
theorem dX11_digest_238 : decode cX11_digest 238 = .ok (.lreturn, 1) := by decide +kernel
theorem dX11_isWithin_0 : decode cX11_isWithin 0 = .ok (.iload_n 0, 1) := by decide +kernel
theorem dX11_isWithin_1 : decode cX11_isWithin 1 = .ok (.iload_n 1, 1) := by decide +kernel
theorem dX11_isWithin_2 : decode cX11_isWithin 2 = .ok (.if_icmp .lt 12, 3) := by decide +kernel
theorem dX11_isWithin_5 : decode cX11_isWithin 5 = .ok (.iload_n 0, 1) := by decide +kernel
theorem dX11_isWithin_6 : decode cX11_isWithin 6 = .ok (.iload_n 2, 1) := by decide +kernel
theorem dX11_isWithin_7 : decode cX11_isWithin 7 = .ok (.if_icmp .gt 7, 3) := by decide +kernel
theorem dX11_isWithin_10 : decode cX11_isWithin 10 = .ok (.iconst 1, 1) := by decide +kernel
theorem dX11_isWithin_11 : decode cX11_isWithin 11 = .ok (.goto 4, 3) := by decide +kernel
theorem dX11_isWithin_14 : decode cX11_isWithin 14 = .ok (.iconst 0, 1) := by decide +kernel
theorem dX11_isWithin_15 : decode cX11_isWithin 15 = .ok (.ireturn, 1) := by decide +kernel
theorem dX11_isPoint_0 : decode cX11_isPoint 0 = .ok (.iload_n 1, 1) := by decide +kernel
theorem dX11_isPoint_1 : decode cX11_isPoint 1 = .ok (.iconst 0, 1) := by decide +kernel
theorem dX11_isPoint_2 : decode cX11_isPoint 2 = .ok (.aload_n 0, 1) := by decide +kernel
theorem dX11_isPoint_3 : decode cX11_isPoint 3 = .ok (.getfield 10, 3) := by decide +kernel
theorem dX11_isPoint_6 : decode cX11_isPoint 6 = .ok (.getfield 89, 3) := by decide +kernel
theorem dX11_isPoint_9 : decode cX11_isPoint 9 = .ok (.iconst 1, 1) := by decide +kernel
theorem dX11_isPoint_10 : decode cX11_isPoint 10 = .ok (.isub, 1) := by decide +kernel
theorem dX11_isPoint_11 : decode cX11_isPoint 11 = .ok (.invokestatic 85, 3) := by decide +kernel
theorem dX11_isPoint_14 : decode cX11_isPoint 14 = .ok (.ireturn, 1) := by decide +kernel
theorem dX11_isServer_0 : decode cX11_isServer 0 = .ok (.iload_n 1, 1) := by decide +kernel
theorem dX11_isServer_1 : decode cX11_isServer 1 = .ok (.iconst 0, 1) := by decide +kernel
theorem dX11_isServer_2 : decode cX11_isServer 2 = .ok (.aload_n 0, 1) := by decide +kernel
theorem dX11_isServer_3 : decode cX11_isServer 3 = .ok (.getfield 10, 3) := by decide +kernel
theorem dX11_isServer_6 : decode cX11_isServer 6 = .ok (.getfield 105, 3) := by decide +kernel
theorem dX11_isServer_9 : decode cX11_isServer 9 = .ok (.iconst 1, 1) := by decide +kernel
theorem dX11_isServer_10 : decode cX11_isServer 10 = .ok (.isub, 1) := by decide +kernel
theorem dX11_isServer_11 : decode cX11_isServer 11 = .ok (.invokestatic 85, 3) := by decide +kernel
theorem dX11_isServer_14 : decode cX11_isServer 14 = .ok (.ireturn, 1) := by decide +kernel
theorem dX11_isSheet_0 : decode cX11_isSheet 0 = .ok (.iload_n 0, 1) := by decide +kernel
theorem dX11_isSheet_1 : decode cX11_isSheet 1 = .ok (.iconst 0, 1) := by decide +kernel
theorem dX11_isSheet_2 : decode cX11_isSheet 2 = .ok (.iconst 3, 1) := by decide +kernel
theorem dX11_isSheet_3 : decode cX11_isSheet 3 = .ok (.invokestatic 85, 3) := by decide +kernel
theorem dX11_isSheet_6 : decode cX11_isSheet 6 = .ok (.ireturn, 1) := by decide +kernel
theorem dX11_isForm_0 : decode cX11_isForm 0 = .ok (.iload_n 0, 1) := by decide +kernel
theorem dX11_isForm_1 : decode cX11_isForm 1 = .ok (.iconst 0, 1) := by decide +kernel
theorem dX11_isForm_2 : decode cX11_isForm 2 = .ok (.iconst 2, 1) := by decide +kernel
theorem dX11_isForm_3 : decode cX11_isForm 3 = .ok (.invokestatic 85, 3) := by decide +kernel
theorem dX11_isForm_6 : decode cX11_isForm 6 = .ok (.ireturn, 1) := by decide +kernel
theorem dX11_isStandingPoint_0 : decode cX11_isStandingPoint 0 = .ok (.aload_n 0, 1) := by decide +kernel
theorem dX11_isStandingPoint_1 : decode cX11_isStandingPoint 1 = .ok (.iload_n 1, 1) := by decide +kernel
theorem dX11_isStandingPoint_2 : decode cX11_isStandingPoint 2 = .ok (.invokevirtual 111, 3) := by decide +kernel
theorem dX11_isStandingPoint_5 : decode cX11_isStandingPoint 5 = .ok (.ifCond .eq 11, 3) := by decide +kernel
theorem dX11_isStandingPoint_8 : decode cX11_isStandingPoint 8 = .ok (.aload_n 0, 1) := by decide +kernel
theorem dX11_isStandingPoint_9 : decode cX11_isStandingPoint 9 = .ok (.iload_n 2, 1) := by decide +kernel
theorem dX11_isStandingPoint_10 : decode cX11_isStandingPoint 10 = .ok (.invokevirtual 97, 3) := by decide +kernel
theorem dX11_isStandingPoint_13 : decode cX11_isStandingPoint 13 = .ok (.goto 9, 3) := by decide +kernel
theorem dX11_isStandingPoint_16 : decode cX11_isStandingPoint 16 = .ok (.iload_n 2, 1) := by decide +kernel
theorem dX11_isStandingPoint_17 : decode cX11_isStandingPoint 17 = .ok (.iconst 0, 1) := by decide +kernel
theorem dX11_isStandingPoint_18 : decode cX11_isStandingPoint 18 = .ok (.iconst 5, 1) := by decide +kernel
theorem dX11_isStandingPoint_19 : decode cX11_isStandingPoint 19 = .ok (.invokestatic 85, 3) := by decide +kernel
theorem dX11_isStandingPoint_22 : decode cX11_isStandingPoint 22 = .ok (.ireturn, 1) := by decide +kernel
theorem dX11_readRow_0 : decode cX11_readRow 0 = .ok (.aload_n 0, 1) := by decide +kernel
theorem dX11_readRow_1 : decode cX11_readRow 1 = .ok (.getfield 26, 3) := by decide +kernel
theorem dX11_readRow_4 : decode cX11_readRow 4 = .ok (.aload_n 0, 1) := by decide +kernel
theorem dX11_readRow_5 : decode cX11_readRow 5 = .ok (.getfield 19, 3) := by decide +kernel
theorem dX11_readRow_8 : decode cX11_readRow 8 = .ok (.aload_n 0, 1) := by decide +kernel
theorem dX11_readRow_9 : decode cX11_readRow 9 = .ok (.getfield 10, 3) := by decide +kernel
theorem dX11_readRow_12 : decode cX11_readRow 12 = .ok (.invokevirtual 253, 3) := by decide +kernel
theorem dX11_readRow_15 : decode cX11_readRow 15 = .ok (.ireturn, 1) := by decide +kernel
theorem dX11_sentAt_0 : decode cX11_sentAt 0 = .ok (.iload_n 2, 1) := by decide +kernel
theorem dX11_sentAt_1 : decode cX11_sentAt 1 = .ok (.aload_n 0, 1) := by decide +kernel
theorem dX11_sentAt_2 : decode cX11_sentAt 2 = .ok (.getfield 26, 3) := by decide +kernel
theorem dX11_sentAt_5 : decode cX11_sentAt 5 = .ok (.getfield 128, 3) := by decide +kernel
theorem dX11_sentAt_8 : decode cX11_sentAt 8 = .ok (.if_icmp .lt 5, 3) := by decide +kernel
theorem dX11_sentAt_11 : decode cX11_sentAt 11 = .ok (.iconst (-1), 1) := by decide +kernel
theorem dX11_sentAt_12 : decode cX11_sentAt 12 = .ok (.ireturn, 1) := by decide +kernel
theorem dX11_sentAt_13 : decode cX11_sentAt 13 = .ok (.aload_n 0, 1) := by decide +kernel
theorem dX11_sentAt_14 : decode cX11_sentAt 14 = .ok (.getfield 26, 3) := by decide +kernel
theorem dX11_sentAt_17 : decode cX11_sentAt 17 = .ok (.aload_n 1, 1) := by decide +kernel
theorem dX11_sentAt_18 : decode cX11_sentAt 18 = .ok (.iload_n 2, 1) := by decide +kernel
theorem dX11_sentAt_19 : decode cX11_sentAt 19 = .ok (.iconst 1, 1) := by decide +kernel
theorem dX11_sentAt_20 : decode cX11_sentAt 20 = .ok (.iadd, 1) := by decide +kernel
theorem dX11_sentAt_21 : decode cX11_sentAt 21 = .ok (.invokevirtual 131, 3) := by decide +kernel
theorem dX11_sentAt_24 : decode cX11_sentAt 24 = .ok (.pop, 1) := by decide +kernel
theorem dX11_sentAt_25 : decode cX11_sentAt 25 = .ok (.aload_n 1, 1) := by decide +kernel
theorem dX11_sentAt_26 : decode cX11_sentAt 26 = .ok (.getfield 257, 3) := by decide +kernel
theorem dX11_sentAt_29 : decode cX11_sentAt 29 = .ok (.ireturn, 1) := by decide +kernel
theorem dX11_hundredths_0 : decode cX11_hundredths 0 = .ok (.iload_n 1, 1) := by decide +kernel
theorem dX11_hundredths_1 : decode cX11_hundredths 1 = .ok (.ifCond .le 12, 3) := by decide +kernel
theorem dX11_hundredths_4 : decode cX11_hundredths 4 = .ok (.iload_n 0, 1) := by decide +kernel
theorem dX11_hundredths_5 : decode cX11_hundredths 5 = .ok (.bipush 100, 2) := by decide +kernel
theorem dX11_hundredths_7 : decode cX11_hundredths 7 = .ok (.imul, 1) := by decide +kernel
theorem dX11_hundredths_8 : decode cX11_hundredths 8 = .ok (.iload_n 1, 1) := by decide +kernel
theorem dX11_hundredths_9 : decode cX11_hundredths 9 = .ok (.idiv, 1) := by decide +kernel
theorem dX11_hundredths_10 : decode cX11_hundredths 10 = .ok (.goto 5, 3) := by decide +kernel
theorem dX11_hundredths_13 : decode cX11_hundredths 13 = .ok (.bipush (-3), 2) := by decide +kernel
theorem dX11_hundredths_15 : decode cX11_hundredths 15 = .ok (.ireturn, 1) := by decide +kernel
theorem dX11_itemRefusal_0 : decode cX11_itemRefusal 0 = .ok (.iload_n 1, 1) := by decide +kernel
theorem dX11_itemRefusal_1 : decode cX11_itemRefusal 1 = .ok (.invokestatic 183, 3) := by decide +kernel
theorem dX11_itemRefusal_4 : decode cX11_itemRefusal 4 = .ok (.ifCond .eq 10, 3) := by decide +kernel
theorem dX11_itemRefusal_7 : decode cX11_itemRefusal 7 = .ok (.iload_n 2, 1) := by decide +kernel
theorem dX11_itemRefusal_8 : decode cX11_itemRefusal 8 = .ok (.invokestatic 186, 3) := by decide +kernel
theorem dX11_itemRefusal_11 : decode cX11_itemRefusal 11 = .ok (.ifCond .ne 6, 3) := by decide +kernel
theorem dX11_itemRefusal_14 : decode cX11_itemRefusal 14 = .ok (.bipush (-2), 2) := by decide +kernel
theorem dX11_itemRefusal_16 : decode cX11_itemRefusal 16 = .ok (.ireturn, 1) := by decide +kernel
theorem dX11_itemRefusal_17 : decode cX11_itemRefusal 17 = .ok (.aload_n 0, 1) := by decide +kernel
theorem dX11_itemRefusal_18 : decode cX11_itemRefusal 18 = .ok (.getfield 19, 3) := by decide +kernel
theorem dX11_itemRefusal_21 : decode cX11_itemRefusal 21 = .ok (.iload_n 1, 1) := by decide +kernel
theorem dX11_itemRefusal_22 : decode cX11_itemRefusal 22 = .ok (.invokevirtual 193, 3) := by decide +kernel
theorem dX11_itemRefusal_25 : decode cX11_itemRefusal 25 = .ok (.ifCond .eq 12, 3) := by decide +kernel
theorem dX11_itemRefusal_28 : decode cX11_itemRefusal 28 = .ok (.aload_n 0, 1) := by decide +kernel
theorem dX11_itemRefusal_29 : decode cX11_itemRefusal 29 = .ok (.getfield 19, 3) := by decide +kernel
theorem dX11_itemRefusal_32 : decode cX11_itemRefusal 32 = .ok (.iconst 1, 1) := by decide +kernel
theorem dX11_itemRefusal_33 : decode cX11_itemRefusal 33 = .ok (.invokevirtual 124, 3) := by decide +kernel
theorem dX11_itemRefusal_36 : decode cX11_itemRefusal 36 = .ok (.ireturn, 1) := by decide +kernel
theorem dX11_itemRefusal_37 : decode cX11_itemRefusal 37 = .ok (.aload_n 0, 1) := by decide +kernel
theorem dX11_itemRefusal_38 : decode cX11_itemRefusal 38 = .ok (.getfield 19, 3) := by decide +kernel
theorem dX11_itemRefusal_41 : decode cX11_itemRefusal 41 = .ok (.getfield 213, 3) := by decide +kernel
theorem dX11_itemRefusal_44 : decode cX11_itemRefusal 44 = .ok (.iload_n 1, 1) := by decide +kernel
theorem dX11_itemRefusal_45 : decode cX11_itemRefusal 45 = .ok (.iaload, 1) := by decide +kernel
theorem dX11_itemRefusal_46 : decode cX11_itemRefusal 46 = .ok (.iload_n 2, 1) := by decide +kernel
theorem dX11_itemRefusal_47 : decode cX11_itemRefusal 47 = .ok (.if_icmp .eq 12, 3) := by decide +kernel
theorem dX11_itemRefusal_50 : decode cX11_itemRefusal 50 = .ok (.aload_n 0, 1) := by decide +kernel
theorem dX11_itemRefusal_51 : decode cX11_itemRefusal 51 = .ok (.getfield 19, 3) := by decide +kernel
theorem dX11_itemRefusal_54 : decode cX11_itemRefusal 54 = .ok (.iconst 3, 1) := by decide +kernel
theorem dX11_itemRefusal_55 : decode cX11_itemRefusal 55 = .ok (.invokevirtual 124, 3) := by decide +kernel
theorem dX11_itemRefusal_58 : decode cX11_itemRefusal 58 = .ok (.ireturn, 1) := by decide +kernel
theorem dX11_itemRefusal_59 : decode cX11_itemRefusal 59 = .ok (.aload_n 0, 1) := by decide +kernel
theorem dX11_itemRefusal_60 : decode cX11_itemRefusal 60 = .ok (.getfield 19, 3) := by decide +kernel
theorem dX11_itemRefusal_63 : decode cX11_itemRefusal 63 = .ok (.iload_n 1, 1) := by decide +kernel
theorem dX11_itemRefusal_64 : decode cX11_itemRefusal 64 = .ok (.iload_n 3, 1) := by decide +kernel
theorem dX11_itemRefusal_65 : decode cX11_itemRefusal 65 = .ok (.iconst 1, 1) := by decide +kernel
theorem dX11_itemRefusal_66 : decode cX11_itemRefusal 66 = .ok (.invokevirtual 216, 3) := by decide +kernel
theorem dX11_itemRefusal_69 : decode cX11_itemRefusal 69 = .ok (.ifCond .ne 12, 3) := by decide +kernel
theorem dX11_itemRefusal_72 : decode cX11_itemRefusal 72 = .ok (.aload_n 0, 1) := by decide +kernel
theorem dX11_itemRefusal_73 : decode cX11_itemRefusal 73 = .ok (.getfield 19, 3) := by decide +kernel
theorem dX11_itemRefusal_76 : decode cX11_itemRefusal 76 = .ok (.iconst 2, 1) := by decide +kernel
theorem dX11_itemRefusal_77 : decode cX11_itemRefusal 77 = .ok (.invokevirtual 124, 3) := by decide +kernel
theorem dX11_itemRefusal_80 : decode cX11_itemRefusal 80 = .ok (.ireturn, 1) := by decide +kernel
theorem dX11_itemRefusal_81 : decode cX11_itemRefusal 81 = .ok (.iconst 0, 1) := by decide +kernel
theorem dX11_itemRefusal_82 : decode cX11_itemRefusal 82 = .ok (.ireturn, 1) := by decide +kernel
theorem dX12_init_0 : decode cX12_init 0 = .ok (.aload_n 0, 1) := by decide +kernel
theorem dX12_init_1 : decode cX12_init 1 = .ok (.invokespecial 1, 3) := by decide +kernel
theorem dX12_init_4 : decode cX12_init 4 = .ok (.aload_n 0, 1) := by decide +kernel
theorem dX12_init_5 : decode cX12_init 5 = .ok (.iconst 1, 1) := by decide +kernel
theorem dX12_init_6 : decode cX12_init 6 = .ok (.putfield 7, 3) := by decide +kernel
theorem dX12_init_9 : decode cX12_init 9 = .ok (.aload_n 0, 1) := by decide +kernel
theorem dX12_init_10 : decode cX12_init 10 = .ok (.bipush 6, 2) := by decide +kernel
theorem dX12_init_12 : decode cX12_init 12 = .ok (.newarray .int, 2) := by decide +kernel
theorem dX12_init_14 : decode cX12_init 14 = .ok (.putfield 13, 3) := by decide +kernel
theorem dX12_init_17 : decode cX12_init 17 = .ok (.aload_n 0, 1) := by decide +kernel
theorem dX12_init_18 : decode cX12_init 18 = .ok (.iconst 1, 1) := by decide +kernel
theorem dX12_init_19 : decode cX12_init 19 = .ok (.putfield 17, 3) := by decide +kernel
theorem dX12_init_22 : decode cX12_init 22 = .ok (.aload_n 0, 1) := by decide +kernel
theorem dX12_init_23 : decode cX12_init 23 = .ok (.iconst 3, 1) := by decide +kernel
theorem dX12_init_24 : decode cX12_init 24 = .ok (.newarray .int, 2) := by decide +kernel
theorem dX12_init_26 : decode cX12_init 26 = .ok (.putfield 20, 3) := by decide +kernel
theorem dX12_init_29 : decode cX12_init 29 = .ok (.aload_n 0, 1) := by decide +kernel
theorem dX12_init_30 : decode cX12_init 30 = .ok (.iconst 2, 1) := by decide +kernel
theorem dX12_init_31 : decode cX12_init 31 = .ok (.putfield 23, 3) := by decide +kernel
theorem dX12_init_34 : decode cX12_init 34 = .ok (.aload_n 0, 1) := by decide +kernel
theorem dX12_init_35 : decode cX12_init 35 = .ok (.bipush 40, 2) := by decide +kernel
theorem dX12_init_37 : decode cX12_init 37 = .ok (.newarray .int, 2) := by decide +kernel
theorem dX12_init_39 : decode cX12_init 39 = .ok (.putfield 26, 3) := by decide +kernel
theorem dX12_init_42 : decode cX12_init 42 = .ok (.aload_n 0, 1) := by decide +kernel
theorem dX12_init_43 : decode cX12_init 43 = .ok (.sipush 8856, 3) := by decide +kernel
theorem dX12_init_46 : decode cX12_init 46 = .ok (.newarray .int, 2) := by decide +kernel
theorem dX12_init_48 : decode cX12_init 48 = .ok (.putfield 29, 3) := by decide +kernel
theorem dX12_init_51 : decode cX12_init 51 = .ok (.aload_n 0, 1) := by decide +kernel
theorem dX12_init_52 : decode cX12_init 52 = .ok (.bipush 40, 2) := by decide +kernel
theorem dX12_init_54 : decode cX12_init 54 = .ok (.newarray .int, 2) := by decide +kernel
theorem dX12_init_56 : decode cX12_init 56 = .ok (.putfield 32, 3) := by decide +kernel
theorem dX12_init_59 : decode cX12_init 59 = .ok (.aload_n 0, 1) := by decide +kernel
theorem dX12_init_60 : decode cX12_init 60 = .ok (.iconst 3, 1) := by decide +kernel
theorem dX12_init_61 : decode cX12_init 61 = .ok (.newarray .int, 2) := by decide +kernel
theorem dX12_init_63 : decode cX12_init 63 = .ok (.putfield 35, 3) := by decide +kernel
theorem dX12_init_66 : decode cX12_init 66 = .ok (.aload_n 0, 1) := by decide +kernel
theorem dX12_init_67 : decode cX12_init 67 = .ok (.sipush 216, 3) := by decide +kernel
theorem dX12_init_70 : decode cX12_init 70 = .ok (.newarray .int, 2) := by decide +kernel
theorem dX12_init_72 : decode cX12_init 72 = .ok (.putfield 38, 3) := by decide +kernel
theorem dX12_init_75 : decode cX12_init 75 = .ok (.aload_n 0, 1) := by decide +kernel
theorem dX12_init_76 : decode cX12_init 76 = .ok (.sipush 216, 3) := by decide +kernel
theorem dX12_init_79 : decode cX12_init 79 = .ok (.newarray .int, 2) := by decide +kernel
theorem dX12_init_81 : decode cX12_init 81 = .ok (.putfield 41, 3) := by decide +kernel
theorem dX12_init_84 : decode cX12_init 84 = .ok (.aload_n 0, 1) := by decide +kernel
theorem dX12_init_85 : decode cX12_init 85 = .ok (.iconst 3, 1) := by decide +kernel
theorem dX12_init_86 : decode cX12_init 86 = .ok (.newarray .int, 2) := by decide +kernel
theorem dX12_init_88 : decode cX12_init 88 = .ok (.putfield 44, 3) := by decide +kernel
theorem dX12_init_91 : decode cX12_init 91 = .ok (.aload_n 0, 1) := by decide +kernel
theorem dX12_init_92 : decode cX12_init 92 = .ok (.iconst 3, 1) := by decide +kernel
theorem dX12_init_93 : decode cX12_init 93 = .ok (.newarray .int, 2) := by decide +kernel
theorem dX12_init_95 : decode cX12_init 95 = .ok (.putfield 47, 3) := by decide +kernel
theorem dX12_init_98 : decode cX12_init 98 = .ok (.aload_n 0, 1) := by decide +kernel
theorem dX12_init_99 : decode cX12_init 99 = .ok (.iconst 3, 1) := by decide +kernel
theorem dX12_init_100 : decode cX12_init 100 = .ok (.newarray .int, 2) := by decide +kernel
theorem dX12_init_102 : decode cX12_init 102 = .ok (.putfield 50, 3) := by decide +kernel
theorem dX12_init_105 : decode cX12_init 105 = .ok (.aload_n 0, 1) := by decide +kernel
theorem dX12_init_106 : decode cX12_init 106 = .ok (.iconst 4, 1) := by decide +kernel
theorem dX12_init_107 : decode cX12_init 107 = .ok (.newarray .boolean, 2) := by decide +kernel
theorem dX12_init_109 : decode cX12_init 109 = .ok (.putfield 53, 3) := by decide +kernel
theorem dX12_init_112 : decode cX12_init 112 = .ok (.aload_n 0, 1) := by decide +kernel
theorem dX12_init_113 : decode cX12_init 113 = .ok (.iconst 4, 1) := by decide +kernel
theorem dX12_init_114 : decode cX12_init 114 = .ok (.newarray .int, 2) := by decide +kernel
theorem dX12_init_116 : decode cX12_init 116 = .ok (.putfield 57, 3) := by decide +kernel
theorem dX12_init_119 : decode cX12_init 119 = .ok (.aload_n 0, 1) := by decide +kernel
theorem dX12_init_120 : decode cX12_init 120 = .ok (.iconst 4, 1) := by decide +kernel
theorem dX12_init_121 : decode cX12_init 121 = .ok (.newarray .int, 2) := by decide +kernel
theorem dX12_init_123 : decode cX12_init 123 = .ok (.putfield 60, 3) := by decide +kernel
theorem dX12_init_126 : decode cX12_init 126 = .ok (.aload_n 0, 1) := by decide +kernel
theorem dX12_init_127 : decode cX12_init 127 = .ok (.sipush 160, 3) := by decide +kernel
theorem dX12_init_130 : decode cX12_init 130 = .ok (.newarray .int, 2) := by decide +kernel
theorem dX12_init_132 : decode cX12_init 132 = .ok (.putfield 63, 3) := by decide +kernel
theorem dX12_init_135 : decode cX12_init 135 = .ok (.aload_n 0, 1) := by decide +kernel
theorem dX12_init_136 : decode cX12_init 136 = .ok (.bipush 40, 2) := by decide +kernel
theorem dX12_init_138 : decode cX12_init 138 = .ok (.newarray .int, 2) := by decide +kernel
theorem dX12_init_140 : decode cX12_init 140 = .ok (.putfield 66, 3) := by decide +kernel
theorem dX12_init_143 : decode cX12_init 143 = .ok (.return_, 1) := by decide +kernel
theorem dX12_in_0 : decode cX12_in 0 = .ok (.iload_n 0, 1) := by decide +kernel
theorem dX12_in_1 : decode cX12_in 1 = .ok (.iload_n 1, 1) := by decide +kernel
theorem dX12_in_2 : decode cX12_in 2 = .ok (.if_icmp .lt 12, 3) := by decide +kernel
theorem dX12_in_5 : decode cX12_in 5 = .ok (.iload_n 0, 1) := by decide +kernel
theorem dX12_in_6 : decode cX12_in 6 = .ok (.iload_n 2, 1) := by decide +kernel
theorem dX12_in_7 : decode cX12_in 7 = .ok (.if_icmp .gt 7, 3) := by decide +kernel
theorem dX12_in_10 : decode cX12_in 10 = .ok (.iconst 1, 1) := by decide +kernel
theorem dX12_in_11 : decode cX12_in 11 = .ok (.goto 4, 3) := by decide +kernel
theorem dX12_in_14 : decode cX12_in 14 = .ok (.iconst 0, 1) := by decide +kernel
theorem dX12_in_15 : decode cX12_in 15 = .ok (.ireturn, 1) := by decide +kernel
theorem dX12_apart_0 : decode cX12_apart 0 = .ok (.iload_n 0, 1) := by decide +kernel
theorem dX12_apart_1 : decode cX12_apart 1 = .ok (.iload_n 1, 1) := by decide +kernel
theorem dX12_apart_2 : decode cX12_apart 2 = .ok (.if_icmp .ge 9, 3) := by decide +kernel
theorem dX12_apart_5 : decode cX12_apart 5 = .ok (.iload_n 1, 1) := by decide +kernel
theorem dX12_apart_6 : decode cX12_apart 6 = .ok (.iload_n 0, 1) := by decide +kernel
theorem dX12_apart_7 : decode cX12_apart 7 = .ok (.isub, 1) := by decide +kernel
theorem dX12_apart_8 : decode cX12_apart 8 = .ok (.goto 6, 3) := by decide +kernel
theorem dX12_apart_11 : decode cX12_apart 11 = .ok (.iload_n 0, 1) := by decide +kernel
theorem dX12_apart_12 : decode cX12_apart 12 = .ok (.iload_n 1, 1) := by decide +kernel
theorem dX12_apart_13 : decode cX12_apart 13 = .ok (.isub, 1) := by decide +kernel
theorem dX12_apart_14 : decode cX12_apart 14 = .ok (.ireturn, 1) := by decide +kernel
theorem dX12_points_0 : decode cX12_points 0 = .ok (.iload_n 1, 1) := by decide +kernel
theorem dX12_points_1 : decode cX12_points 1 = .ok (.iconst 1, 1) := by decide +kernel
theorem dX12_points_2 : decode cX12_points 2 = .ok (.bipush 6, 2) := by decide +kernel
theorem dX12_points_4 : decode cX12_points 4 = .ok (.invokestatic 69, 3) := by decide +kernel
theorem dX12_points_7 : decode cX12_points 7 = .ok (.ifCond .ne 6, 3) := by decide +kernel
theorem dX12_points_10 : decode cX12_points 10 = .ok (.bipush (-2), 2) := by decide +kernel
theorem dX12_points_12 : decode cX12_points 12 = .ok (.ireturn, 1) := by decide +kernel
theorem dX12_points_13 : decode cX12_points 13 = .ok (.aload_n 0, 1) := by decide +kernel
theorem dX12_points_14 : decode cX12_points 14 = .ok (.getfield 7, 3) := by decide +kernel
theorem dX12_points_17 : decode cX12_points 17 = .ok (.istore_n 2, 1) := by decide +kernel
theorem dX12_points_18 : decode cX12_points 18 = .ok (.aload_n 0, 1) := by decide +kernel
theorem dX12_points_19 : decode cX12_points 19 = .ok (.iload_n 1, 1) := by decide +kernel
theorem dX12_points_20 : decode cX12_points 20 = .ok (.putfield 7, 3) := by decide +kernel
theorem dX12_points_23 : decode cX12_points 23 = .ok (.iload_n 2, 1) := by decide +kernel
theorem dX12_points_24 : decode cX12_points 24 = .ok (.istore_n 3, 1) := by decide +kernel
theorem dX12_points_25 : decode cX12_points 25 = .ok (.iload_n 3, 1) := by decide +kernel
theorem dX12_points_26 : decode cX12_points 26 = .ok (.iload_n 1, 1) := by decide +kernel
theorem dX12_points_27 : decode cX12_points 27 = .ok (.if_icmp .ge 16, 3) := by decide +kernel
theorem dX12_points_30 : decode cX12_points 30 = .ok (.aload_n 0, 1) := by decide +kernel
theorem dX12_points_31 : decode cX12_points 31 = .ok (.getfield 13, 3) := by decide +kernel
theorem dX12_points_34 : decode cX12_points 34 = .ok (.iload_n 3, 1) := by decide +kernel
theorem dX12_points_35 : decode cX12_points 35 = .ok (.iconst 0, 1) := by decide +kernel
theorem dX12_points_36 : decode cX12_points 36 = .ok (.iastore, 1) := by decide +kernel
theorem dX12_points_37 : decode cX12_points 37 = .ok (.iinc 3 1, 3) := by decide +kernel
theorem dX12_points_40 : decode cX12_points 40 = .ok (.goto (-15), 3) := by decide +kernel
theorem dX12_points_43 : decode cX12_points 43 = .ok (.iconst 0, 1) := by decide +kernel
theorem dX12_points_44 : decode cX12_points 44 = .ok (.istore_n 3, 1) := by decide +kernel
theorem dX12_points_45 : decode cX12_points 45 = .ok (.iload_n 3, 1) := by decide +kernel
theorem dX12_points_46 : decode cX12_points 46 = .ok (.iconst 3, 1) := by decide +kernel
theorem dX12_points_47 : decode cX12_points 47 = .ok (.if_icmp .ge 35, 3) := by decide +kernel
theorem dX12_points_50 : decode cX12_points 50 = .ok (.aload_n 0, 1) := by decide +kernel
theorem dX12_points_51 : decode cX12_points 51 = .ok (.getfield 20, 3) := by decide +kernel
theorem dX12_points_54 : decode cX12_points 54 = .ok (.iload_n 3, 1) := by decide +kernel
theorem dX12_points_55 : decode cX12_points 55 = .ok (.aload_n 0, 1) := by decide +kernel
theorem dX12_points_56 : decode cX12_points 56 = .ok (.getfield 20, 3) := by decide +kernel
theorem dX12_points_59 : decode cX12_points 59 = .ok (.iload_n 3, 1) := by decide +kernel
theorem dX12_points_60 : decode cX12_points 60 = .ok (.iaload, 1) := by decide +kernel
theorem dX12_points_61 : decode cX12_points 61 = .ok (.iload_n 1, 1) := by decide +kernel
theorem dX12_points_62 : decode cX12_points 62 = .ok (.if_icmp .ge 12, 3) := by decide +kernel
theorem dX12_points_65 : decode cX12_points 65 = .ok (.aload_n 0, 1) := by decide +kernel
theorem dX12_points_66 : decode cX12_points 66 = .ok (.getfield 20, 3) := by decide +kernel
theorem dX12_points_69 : decode cX12_points 69 = .ok (.iload_n 3, 1) := by decide +kernel
theorem dX12_points_70 : decode cX12_points 70 = .ok (.iaload, 1) := by decide +kernel
theorem dX12_points_71 : decode cX12_points 71 = .ok (.goto 4, 3) := by decide +kernel
theorem dX12_points_74 : decode cX12_points 74 = .ok (.iconst 0, 1) := by decide +kernel
theorem dX12_points_75 : decode cX12_points 75 = .ok (.iastore, 1) := by decide +kernel
theorem dX12_points_76 : decode cX12_points 76 = .ok (.iinc 3 1, 3) := by decide +kernel
theorem dX12_points_79 : decode cX12_points 79 = .ok (.goto (-34), 3) := by decide +kernel
theorem dX12_points_82 : decode cX12_points 82 = .ok (.iload_n 2, 1) := by decide +kernel
theorem dX12_points_83 : decode cX12_points 83 = .ok (.ireturn, 1) := by decide +kernel
theorem dX12_isPoint_0 : decode cX12_isPoint 0 = .ok (.iload_n 1, 1) := by decide +kernel
theorem dX12_isPoint_1 : decode cX12_isPoint 1 = .ok (.iconst 0, 1) := by decide +kernel
theorem dX12_isPoint_2 : decode cX12_isPoint 2 = .ok (.aload_n 0, 1) := by decide +kernel
theorem dX12_isPoint_3 : decode cX12_isPoint 3 = .ok (.getfield 7, 3) := by decide +kernel
theorem dX12_isPoint_6 : decode cX12_isPoint 6 = .ok (.iconst 1, 1) := by decide +kernel
theorem dX12_isPoint_7 : decode cX12_isPoint 7 = .ok (.isub, 1) := by decide +kernel
theorem dX12_isPoint_8 : decode cX12_isPoint 8 = .ok (.invokestatic 69, 3) := by decide +kernel
theorem dX12_isPoint_11 : decode cX12_isPoint 11 = .ok (.ireturn, 1) := by decide +kernel
theorem dX12_place_0 : decode cX12_place 0 = .ok (.aload_n 0, 1) := by decide +kernel
theorem dX12_place_1 : decode cX12_place 1 = .ok (.iload_n 1, 1) := by decide +kernel
theorem dX12_place_2 : decode cX12_place 2 = .ok (.invokevirtual 73, 3) := by decide +kernel
theorem dX12_place_5 : decode cX12_place 5 = .ok (.ifCond .eq 14, 3) := by decide +kernel
theorem dX12_place_8 : decode cX12_place 8 = .ok (.iload_n 2, 1) := by decide +kernel
theorem dX12_place_9 : decode cX12_place 9 = .ok (.iconst 0, 1) := by decide +kernel
theorem dX12_place_10 : decode cX12_place 10 = .ok (.sipush 1000, 3) := by decide +kernel
theorem dX12_place_13 : decode cX12_place 13 = .ok (.invokestatic 69, 3) := by decide +kernel
theorem dX12_place_16 : decode cX12_place 16 = .ok (.ifCond .ne 6, 3) := by decide +kernel
theorem dX12_place_19 : decode cX12_place 19 = .ok (.bipush (-2), 2) := by decide +kernel
theorem dX12_place_21 : decode cX12_place 21 = .ok (.ireturn, 1) := by decide +kernel
theorem dX12_place_22 : decode cX12_place 22 = .ok (.aload_n 0, 1) := by decide +kernel
theorem dX12_place_23 : decode cX12_place 23 = .ok (.getfield 13, 3) := by decide +kernel
theorem dX12_place_26 : decode cX12_place 26 = .ok (.iload_n 1, 1) := by decide +kernel
theorem dX12_place_27 : decode cX12_place 27 = .ok (.iaload, 1) := by decide +kernel
theorem dX12_place_28 : decode cX12_place 28 = .ok (.istore_n 3, 1) := by decide +kernel
theorem dX12_place_29 : decode cX12_place 29 = .ok (.aload_n 0, 1) := by decide +kernel
theorem dX12_place_30 : decode cX12_place 30 = .ok (.getfield 13, 3) := by decide +kernel
theorem dX12_place_33 : decode cX12_place 33 = .ok (.iload_n 1, 1) := by decide +kernel
theorem dX12_place_34 : decode cX12_place 34 = .ok (.iload_n 2, 1) := by decide +kernel
theorem dX12_place_35 : decode cX12_place 35 = .ok (.iastore, 1) := by decide +kernel
theorem dX12_place_36 : decode cX12_place 36 = .ok (.iload_n 3, 1) := by decide +kernel
theorem dX12_place_37 : decode cX12_place 37 = .ok (.ireturn, 1) := by decide +kernel
theorem dX12_servers_0 : decode cX12_servers 0 = .ok (.iload_n 1, 1) := by decide +kernel
theorem dX12_servers_1 : decode cX12_servers 1 = .ok (.iconst 1, 1) := by decide +kernel
theorem dX12_servers_2 : decode cX12_servers 2 = .ok (.iconst 3, 1) := by decide +kernel
theorem dX12_servers_3 : decode cX12_servers 3 = .ok (.invokestatic 69, 3) := by decide +kernel
theorem dX12_servers_6 : decode cX12_servers 6 = .ok (.ifCond .ne 6, 3) := by decide +kernel
theorem dX12_servers_9 : decode cX12_servers 9 = .ok (.bipush (-2), 2) := by decide +kernel
theorem dX12_servers_11 : decode cX12_servers 11 = .ok (.ireturn, 1) := by decide +kernel
theorem dX12_servers_12 : decode cX12_servers 12 = .ok (.aload_n 0, 1) := by decide +kernel
theorem dX12_servers_13 : decode cX12_servers 13 = .ok (.getfield 17, 3) := by decide +kernel
theorem dX12_servers_16 : decode cX12_servers 16 = .ok (.istore_n 2, 1) := by decide +kernel
theorem dX12_servers_17 : decode cX12_servers 17 = .ok (.aload_n 0, 1) := by decide +kernel
theorem dX12_servers_18 : decode cX12_servers 18 = .ok (.iload_n 1, 1) := by decide +kernel
theorem dX12_servers_19 : decode cX12_servers 19 = .ok (.putfield 17, 3) := by decide +kernel
theorem dX12_servers_22 : decode cX12_servers 22 = .ok (.iload_n 2, 1) := by decide +kernel
theorem dX12_servers_23 : decode cX12_servers 23 = .ok (.istore_n 3, 1) := by decide +kernel
theorem dX12_servers_24 : decode cX12_servers 24 = .ok (.iload_n 3, 1) := by decide +kernel
theorem dX12_servers_25 : decode cX12_servers 25 = .ok (.iload_n 1, 1) := by decide +kernel
theorem dX12_servers_26 : decode cX12_servers 26 = .ok (.if_icmp .ge 16, 3) := by decide +kernel
theorem dX12_servers_29 : decode cX12_servers 29 = .ok (.aload_n 0, 1) := by decide +kernel
theorem dX12_servers_30 : decode cX12_servers 30 = .ok (.getfield 20, 3) := by decide +kernel
theorem dX12_servers_33 : decode cX12_servers 33 = .ok (.iload_n 3, 1) := by decide +kernel
theorem dX12_servers_34 : decode cX12_servers 34 = .ok (.iconst 0, 1) := by decide +kernel
theorem dX12_servers_35 : decode cX12_servers 35 = .ok (.iastore, 1) := by decide +kernel
theorem dX12_servers_36 : decode cX12_servers 36 = .ok (.iinc 3 1, 3) := by decide +kernel
theorem dX12_servers_39 : decode cX12_servers 39 = .ok (.goto (-15), 3) := by decide +kernel
theorem dX12_servers_42 : decode cX12_servers 42 = .ok (.iload_n 2, 1) := by decide +kernel
theorem dX12_servers_43 : decode cX12_servers 43 = .ok (.ireturn, 1) := by decide +kernel
theorem dX12_start_0 : decode cX12_start 0 = .ok (.iload_n 1, 1) := by decide +kernel
theorem dX12_start_1 : decode cX12_start 1 = .ok (.iconst 0, 1) := by decide +kernel
theorem dX12_start_2 : decode cX12_start 2 = .ok (.aload_n 0, 1) := by decide +kernel
theorem dX12_start_3 : decode cX12_start 3 = .ok (.getfield 17, 3) := by decide +kernel
theorem dX12_start_6 : decode cX12_start 6 = .ok (.iconst 1, 1) := by decide +kernel
theorem dX12_start_7 : decode cX12_start 7 = .ok (.isub, 1) := by decide +kernel
theorem dX12_start_8 : decode cX12_start 8 = .ok (.invokestatic 69, 3) := by decide +kernel
theorem dX12_start_11 : decode cX12_start 11 = .ok (.ifCond .eq 11, 3) := by decide +kernel
theorem dX12_start_14 : decode cX12_start 14 = .ok (.aload_n 0, 1) := by decide +kernel
theorem dX12_start_15 : decode cX12_start 15 = .ok (.iload_n 2, 1) := by decide +kernel
theorem dX12_start_16 : decode cX12_start 16 = .ok (.invokevirtual 73, 3) := by decide +kernel
theorem dX12_start_19 : decode cX12_start 19 = .ok (.ifCond .ne 6, 3) := by decide +kernel
theorem dX12_start_22 : decode cX12_start 22 = .ok (.bipush (-2), 2) := by decide +kernel
theorem dX12_start_24 : decode cX12_start 24 = .ok (.ireturn, 1) := by decide +kernel
theorem dX12_start_25 : decode cX12_start 25 = .ok (.aload_n 0, 1) := by decide +kernel
theorem dX12_start_26 : decode cX12_start 26 = .ok (.getfield 20, 3) := by decide +kernel
theorem dX12_start_29 : decode cX12_start 29 = .ok (.iload_n 1, 1) := by decide +kernel
theorem dX12_start_30 : decode cX12_start 30 = .ok (.iaload, 1) := by decide +kernel
theorem dX12_start_31 : decode cX12_start 31 = .ok (.istore_n 3, 1) := by decide +kernel
theorem dX12_start_32 : decode cX12_start 32 = .ok (.aload_n 0, 1) := by decide +kernel
theorem dX12_start_33 : decode cX12_start 33 = .ok (.getfield 20, 3) := by decide +kernel
theorem dX12_start_36 : decode cX12_start 36 = .ok (.iload_n 1, 1) := by decide +kernel
theorem dX12_start_37 : decode cX12_start 37 = .ok (.iload_n 2, 1) := by decide +kernel
theorem dX12_start_38 : decode cX12_start 38 = .ok (.iastore, 1) := by decide +kernel
theorem dX12_start_39 : decode cX12_start 39 = .ok (.iload_n 3, 1) := by decide +kernel
theorem dX12_start_40 : decode cX12_start 40 = .ok (.ireturn, 1) := by decide +kernel
theorem dX12_factor_0 : decode cX12_factor 0 = .ok (.iload_n 1, 1) := by decide +kernel
theorem dX12_factor_1 : decode cX12_factor 1 = .ok (.iconst 1, 1) := by decide +kernel
theorem dX12_factor_2 : decode cX12_factor 2 = .ok (.bipush 9, 2) := by decide +kernel
theorem dX12_factor_4 : decode cX12_factor 4 = .ok (.invokestatic 69, 3) := by decide +kernel
theorem dX12_factor_7 : decode cX12_factor 7 = .ok (.ifCond .ne 6, 3) := by decide +kernel
theorem dX12_factor_10 : decode cX12_factor 10 = .ok (.bipush (-2), 2) := by decide +kernel
theorem dX12_factor_12 : decode cX12_factor 12 = .ok (.ireturn, 1) := by decide +kernel
theorem dX12_factor_13 : decode cX12_factor 13 = .ok (.aload_n 0, 1) := by decide +kernel
theorem dX12_factor_14 : decode cX12_factor 14 = .ok (.getfield 23, 3) := by decide +kernel
theorem dX12_factor_17 : decode cX12_factor 17 = .ok (.istore_n 2, 1) := by decide +kernel
theorem dX12_factor_18 : decode cX12_factor 18 = .ok (.aload_n 0, 1) := by decide +kernel
theorem dX12_factor_19 : decode cX12_factor 19 = .ok (.iload_n 1, 1) := by decide +kernel
theorem dX12_factor_20 : decode cX12_factor 20 = .ok (.putfield 23, 3) := by decide +kernel
theorem dX12_factor_23 : decode cX12_factor 23 = .ok (.iload_n 2, 1) := by decide +kernel
theorem dX12_factor_24 : decode cX12_factor 24 = .ok (.ireturn, 1) := by decide +kernel
theorem dX12_reads_0 : decode cX12_reads 0 = .ok (.aload_n 0, 1) := by decide +kernel
theorem dX12_reads_1 : decode cX12_reads 1 = .ok (.iconst 0, 1) := by decide +kernel
theorem dX12_reads_2 : decode cX12_reads 2 = .ok (.putfield 77, 3) := by decide +kernel
theorem dX12_reads_5 : decode cX12_reads 5 = .ok (.aload_n 0, 1) := by decide +kernel
theorem dX12_reads_6 : decode cX12_reads 6 = .ok (.getfield 53, 3) := by decide +kernel
theorem dX12_reads_9 : decode cX12_reads 9 = .ok (.iconst 0, 1) := by decide +kernel
theorem dX12_reads_10 : decode cX12_reads 10 = .ok (.baload, 1) := by decide +kernel
theorem dX12_reads_11 : decode cX12_reads 11 = .ok (.ifCond .ne 10, 3) := by decide +kernel
theorem dX12_reads_14 : decode cX12_reads 14 = .ok (.aload_n 0, 1) := by decide +kernel
theorem dX12_reads_15 : decode cX12_reads 15 = .ok (.iconst 1, 1) := by decide +kernel
theorem dX12_reads_16 : decode cX12_reads 16 = .ok (.putfield 80, 3) := by decide +kernel
theorem dX12_reads_19 : decode cX12_reads 19 = .ok (.iconst 0, 1) := by decide +kernel
theorem dX12_reads_20 : decode cX12_reads 20 = .ok (.ireturn, 1) := by decide +kernel
theorem dX12_reads_21 : decode cX12_reads 21 = .ok (.iconst 0, 1) := by decide +kernel
theorem dX12_reads_22 : decode cX12_reads 22 = .ok (.istore_n 1, 1) := by decide +kernel
theorem dX12_reads_23 : decode cX12_reads 23 = .ok (.iload_n 1, 1) := by decide +kernel
theorem dX12_reads_24 : decode cX12_reads 24 = .ok (.aload_n 0, 1) := by decide +kernel
theorem dX12_reads_25 : decode cX12_reads 25 = .ok (.getfield 60, 3) := by decide +kernel
theorem dX12_reads_28 : decode cX12_reads 28 = .ok (.iconst 0, 1) := by decide +kernel
theorem dX12_reads_29 : decode cX12_reads 29 = .ok (.iaload, 1) := by decide +kernel
theorem dX12_reads_30 : decode cX12_reads 30 = .ok (.if_icmp .ge 47, 3) := by decide +kernel
theorem dX12_reads_33 : decode cX12_reads 33 = .ok (.aload_n 0, 1) := by decide +kernel
theorem dX12_reads_34 : decode cX12_reads 34 = .ok (.aload_n 0, 1) := by decide +kernel
theorem dX12_reads_35 : decode cX12_reads 35 = .ok (.getfield 63, 3) := by decide +kernel
theorem dX12_reads_38 : decode cX12_reads 38 = .ok (.iload_n 1, 1) := by decide +kernel
theorem dX12_reads_39 : decode cX12_reads 39 = .ok (.iaload, 1) := by decide +kernel
theorem dX12_reads_40 : decode cX12_reads 40 = .ok (.invokevirtual 73, 3) := by decide +kernel
theorem dX12_reads_43 : decode cX12_reads 43 = .ok (.ifCond .eq 28, 3) := by decide +kernel
theorem dX12_reads_46 : decode cX12_reads 46 = .ok (.aload_n 0, 1) := by decide +kernel
theorem dX12_reads_47 : decode cX12_reads 47 = .ok (.getfield 26, 3) := by decide +kernel
theorem dX12_reads_50 : decode cX12_reads 50 = .ok (.aload_n 0, 1) := by decide +kernel
theorem dX12_reads_51 : decode cX12_reads 51 = .ok (.getfield 77, 3) := by decide +kernel
theorem dX12_reads_54 : decode cX12_reads 54 = .ok (.aload_n 0, 1) := by decide +kernel
theorem dX12_reads_55 : decode cX12_reads 55 = .ok (.getfield 63, 3) := by decide +kernel
theorem dX12_reads_58 : decode cX12_reads 58 = .ok (.iload_n 1, 1) := by decide +kernel
theorem dX12_reads_59 : decode cX12_reads 59 = .ok (.iaload, 1) := by decide +kernel
theorem dX12_reads_60 : decode cX12_reads 60 = .ok (.iastore, 1) := by decide +kernel
theorem dX12_reads_61 : decode cX12_reads 61 = .ok (.aload_n 0, 1) := by decide +kernel
theorem dX12_reads_62 : decode cX12_reads 62 = .ok (.dup, 1) := by decide +kernel
theorem dX12_reads_63 : decode cX12_reads 63 = .ok (.getfield 77, 3) := by decide +kernel
theorem dX12_reads_66 : decode cX12_reads 66 = .ok (.iconst 1, 1) := by decide +kernel
theorem dX12_reads_67 : decode cX12_reads 67 = .ok (.iadd, 1) := by decide +kernel
theorem dX12_reads_68 : decode cX12_reads 68 = .ok (.putfield 77, 3) := by decide +kernel
theorem dX12_reads_71 : decode cX12_reads 71 = .ok (.iinc 1 1, 3) := by decide +kernel
theorem dX12_reads_74 : decode cX12_reads 74 = .ok (.goto (-51), 3) := by decide +kernel
theorem dX12_reads_77 : decode cX12_reads 77 = .ok (.iconst 1, 1) := by decide +kernel
theorem dX12_reads_78 : decode cX12_reads 78 = .ok (.ireturn, 1) := by decide +kernel
theorem dX12_hintAt_0 : decode cX12_hintAt 0 = .ok (.aload_n 0, 1) := by decide +kernel
theorem dX12_hintAt_1 : decode cX12_hintAt 1 = .ok (.getfield 53, 3) := by decide +kernel
theorem dX12_hintAt_4 : decode cX12_hintAt 4 = .ok (.iconst 1, 1) := by decide +kernel
theorem dX12_hintAt_5 : decode cX12_hintAt 5 = .ok (.baload, 1) := by decide +kernel
theorem dX12_hintAt_6 : decode cX12_hintAt 6 = .ok (.ifCond .eq 25, 3) := by decide +kernel
theorem dX12_hintAt_9 : decode cX12_hintAt 9 = .ok (.iload_n 1, 1) := by decide +kernel
theorem dX12_hintAt_10 : decode cX12_hintAt 10 = .ok (.aload_n 0, 1) := by decide +kernel
theorem dX12_hintAt_11 : decode cX12_hintAt 11 = .ok (.getfield 60, 3) := by decide +kernel
theorem dX12_hintAt_14 : decode cX12_hintAt 14 = .ok (.iconst 1, 1) := by decide +kernel
theorem dX12_hintAt_15 : decode cX12_hintAt 15 = .ok (.iaload, 1) := by decide +kernel
theorem dX12_hintAt_16 : decode cX12_hintAt 16 = .ok (.if_icmp .ge 15, 3) := by decide +kernel
theorem dX12_hintAt_19 : decode cX12_hintAt 19 = .ok (.aload_n 0, 1) := by decide +kernel
theorem dX12_hintAt_20 : decode cX12_hintAt 20 = .ok (.getfield 63, 3) := by decide +kernel
theorem dX12_hintAt_23 : decode cX12_hintAt 23 = .ok (.bipush 40, 2) := by decide +kernel
theorem dX12_hintAt_25 : decode cX12_hintAt 25 = .ok (.iload_n 1, 1) := by decide +kernel
theorem dX12_hintAt_26 : decode cX12_hintAt 26 = .ok (.iadd, 1) := by decide +kernel
theorem dX12_hintAt_27 : decode cX12_hintAt 27 = .ok (.iaload, 1) := by decide +kernel
theorem dX12_hintAt_28 : decode cX12_hintAt 28 = .ok (.goto 4, 3) := by decide +kernel
theorem dX12_hintAt_31 : decode cX12_hintAt 31 = .ok (.iconst (-1), 1) := by decide +kernel
theorem dX12_hintAt_32 : decode cX12_hintAt 32 = .ok (.istore_n 2, 1) := by decide +kernel
theorem dX12_hintAt_33 : decode cX12_hintAt 33 = .ok (.iload_n 2, 1) := by decide +kernel
theorem dX12_hintAt_34 : decode cX12_hintAt 34 = .ok (.iconst 0, 1) := by decide +kernel
theorem dX12_hintAt_35 : decode cX12_hintAt 35 = .ok (.aload_n 0, 1) := by decide +kernel
theorem dX12_hintAt_36 : decode cX12_hintAt 36 = .ok (.getfield 17, 3) := by decide +kernel
theorem dX12_hintAt_39 : decode cX12_hintAt 39 = .ok (.iconst 1, 1) := by decide +kernel
theorem dX12_hintAt_40 : decode cX12_hintAt 40 = .ok (.isub, 1) := by decide +kernel
theorem dX12_hintAt_41 : decode cX12_hintAt 41 = .ok (.invokestatic 69, 3) := by decide +kernel
theorem dX12_hintAt_44 : decode cX12_hintAt 44 = .ok (.ifCond .eq 7, 3) := by decide +kernel
theorem dX12_hintAt_47 : decode cX12_hintAt 47 = .ok (.iload_n 2, 1) := by decide +kernel
theorem dX12_hintAt_48 : decode cX12_hintAt 48 = .ok (.goto 4, 3) := by decide +kernel
theorem dX12_hintAt_51 : decode cX12_hintAt 51 = .ok (.iconst (-1), 1) := by decide +kernel
theorem dX12_hintAt_52 : decode cX12_hintAt 52 = .ok (.ireturn, 1) := by decide +kernel
theorem dX12_asked_0 : decode cX12_asked 0 = .ok (.aload_n 0, 1) := by decide +kernel
theorem dX12_asked_1 : decode cX12_asked 1 = .ok (.invokevirtual 83, 3) := by decide +kernel
theorem dX12_asked_4 : decode cX12_asked 4 = .ok (.ifCond .eq 10, 3) := by decide +kernel
theorem dX12_asked_7 : decode cX12_asked 7 = .ok (.aload_n 0, 1) := by decide +kernel
theorem dX12_asked_8 : decode cX12_asked 8 = .ok (.getfield 77, 3) := by decide +kernel
theorem dX12_asked_11 : decode cX12_asked 11 = .ok (.goto 5, 3) := by decide +kernel
theorem dX12_asked_14 : decode cX12_asked 14 = .ok (.bipush (-11), 2) := by decide +kernel
theorem dX12_asked_16 : decode cX12_asked 16 = .ok (.ireturn, 1) := by decide +kernel
theorem dX12_pointOf_0 : decode cX12_pointOf 0 = .ok (.iload_n 2, 1) := by decide +kernel
theorem dX12_pointOf_1 : decode cX12_pointOf 1 = .ok (.ifCond .ne 10, 3) := by decide +kernel
theorem dX12_pointOf_4 : decode cX12_pointOf 4 = .ok (.iload_n 1, 1) := by decide +kernel
theorem dX12_pointOf_5 : decode cX12_pointOf 5 = .ok (.bipush 6, 2) := by decide +kernel
theorem dX12_pointOf_7 : decode cX12_pointOf 7 = .ok (.irem, 1) := by decide +kernel
theorem dX12_pointOf_8 : decode cX12_pointOf 8 = .ok (.goto 22, 3) := by decide +kernel
theorem dX12_pointOf_11 : decode cX12_pointOf 11 = .ok (.iload_n 2, 1) := by decide +kernel
theorem dX12_pointOf_12 : decode cX12_pointOf 12 = .ok (.iconst 1, 1) := by decide +kernel
theorem dX12_pointOf_13 : decode cX12_pointOf 13 = .ok (.if_icmp .ne 13, 3) := by decide +kernel
theorem dX12_pointOf_16 : decode cX12_pointOf 16 = .ok (.iload_n 1, 1) := by decide +kernel
theorem dX12_pointOf_17 : decode cX12_pointOf 17 = .ok (.bipush 6, 2) := by decide +kernel
theorem dX12_pointOf_19 : decode cX12_pointOf 19 = .ok (.idiv, 1) := by decide +kernel
theorem dX12_pointOf_20 : decode cX12_pointOf 20 = .ok (.bipush 6, 2) := by decide +kernel
theorem dX12_pointOf_22 : decode cX12_pointOf 22 = .ok (.irem, 1) := by decide +kernel
theorem dX12_pointOf_23 : decode cX12_pointOf 23 = .ok (.goto 7, 3) := by decide +kernel
theorem dX12_pointOf_26 : decode cX12_pointOf 26 = .ok (.iload_n 1, 1) := by decide +kernel
theorem dX12_pointOf_27 : decode cX12_pointOf 27 = .ok (.bipush 36, 2) := by decide +kernel
theorem dX12_pointOf_29 : decode cX12_pointOf 29 = .ok (.idiv, 1) := by decide +kernel
theorem dX12_pointOf_30 : decode cX12_pointOf 30 = .ok (.ireturn, 1) := by decide +kernel
theorem dX12_with_0 : decode cX12_with 0 = .ok (.iload_n 2, 1) := by decide +kernel
theorem dX12_with_1 : decode cX12_with 1 = .ok (.ifCond .ne 7, 3) := by decide +kernel
theorem dX12_with_4 : decode cX12_with 4 = .ok (.iconst 1, 1) := by decide +kernel
theorem dX12_with_5 : decode cX12_with 5 = .ok (.goto 15, 3) := by decide +kernel
theorem dX12_with_8 : decode cX12_with 8 = .ok (.iload_n 2, 1) := by decide +kernel
theorem dX12_with_9 : decode cX12_with 9 = .ok (.iconst 1, 1) := by decide +kernel
theorem dX12_with_10 : decode cX12_with 10 = .ok (.if_icmp .ne 8, 3) := by decide +kernel
theorem dX12_with_13 : decode cX12_with 13 = .ok (.bipush 6, 2) := by decide +kernel
theorem dX12_with_15 : decode cX12_with 15 = .ok (.goto 5, 3) := by decide +kernel
theorem dX12_with_18 : decode cX12_with 18 = .ok (.bipush 36, 2) := by decide +kernel
theorem dX12_with_20 : decode cX12_with 20 = .ok (.istore 4, 2) := by decide +kernel
theorem dX12_with_22 : decode cX12_with 22 = .ok (.iload_n 1, 1) := by decide +kernel
theorem dX12_with_23 : decode cX12_with 23 = .ok (.iload 4, 2) := by decide +kernel
theorem dX12_with_25 : decode cX12_with 25 = .ok (.iload_n 3, 1) := by decide +kernel
theorem dX12_with_26 : decode cX12_with 26 = .ok (.aload_n 0, 1) := by decide +kernel
theorem dX12_with_27 : decode cX12_with 27 = .ok (.iload_n 1, 1) := by decide +kernel
theorem dX12_with_28 : decode cX12_with 28 = .ok (.iload_n 2, 1) := by decide +kernel
theorem dX12_with_29 : decode cX12_with 29 = .ok (.invokevirtual 87, 3) := by decide +kernel
theorem dX12_with_32 : decode cX12_with 32 = .ok (.isub, 1) := by decide +kernel
theorem dX12_with_33 : decode cX12_with 33 = .ok (.imul, 1) := by decide +kernel
theorem dX12_with_34 : decode cX12_with 34 = .ok (.iadd, 1) := by decide +kernel
theorem dX12_with_35 : decode cX12_with 35 = .ok (.ireturn, 1) := by decide +kernel
theorem dX12_isStanding_0 : decode cX12_isStanding 0 = .ok (.iconst 0, 1) := by decide +kernel
theorem dX12_isStanding_1 : decode cX12_isStanding 1 = .ok (.istore_n 2, 1) := by decide +kernel
theorem dX12_isStanding_2 : decode cX12_isStanding 2 = .ok (.iload_n 2, 1) := by decide +kernel
theorem dX12_isStanding_3 : decode cX12_isStanding 3 = .ok (.iconst 3, 1) := by decide +kernel
theorem dX12_isStanding_4 : decode cX12_isStanding 4 = .ok (.if_icmp .ge 41, 3) := by decide +kernel
theorem dX12_isStanding_7 : decode cX12_isStanding 7 = .ok (.aload_n 0, 1) := by decide +kernel
theorem dX12_isStanding_8 : decode cX12_isStanding 8 = .ok (.iload_n 1, 1) := by decide +kernel
theorem dX12_isStanding_9 : decode cX12_isStanding 9 = .ok (.iload_n 2, 1) := by decide +kernel
theorem dX12_isStanding_10 : decode cX12_isStanding 10 = .ok (.invokevirtual 87, 3) := by decide +kernel
theorem dX12_isStanding_13 : decode cX12_isStanding 13 = .ok (.istore_n 3, 1) := by decide +kernel
theorem dX12_isStanding_14 : decode cX12_isStanding 14 = .ok (.iload_n 2, 1) := by decide +kernel
theorem dX12_isStanding_15 : decode cX12_isStanding 15 = .ok (.aload_n 0, 1) := by decide +kernel
theorem dX12_isStanding_16 : decode cX12_isStanding 16 = .ok (.getfield 17, 3) := by decide +kernel
theorem dX12_isStanding_19 : decode cX12_isStanding 19 = .ok (.if_icmp .ge 14, 3) := by decide +kernel
theorem dX12_isStanding_22 : decode cX12_isStanding 22 = .ok (.iload_n 3, 1) := by decide +kernel
theorem dX12_isStanding_23 : decode cX12_isStanding 23 = .ok (.aload_n 0, 1) := by decide +kernel
theorem dX12_isStanding_24 : decode cX12_isStanding 24 = .ok (.getfield 7, 3) := by decide +kernel
theorem dX12_isStanding_27 : decode cX12_isStanding 27 = .ok (.if_icmp .lt 12, 3) := by decide +kernel
theorem dX12_isStanding_30 : decode cX12_isStanding 30 = .ok (.goto 7, 3) := by decide +kernel
theorem dX12_isStanding_33 : decode cX12_isStanding 33 = .ok (.iload_n 3, 1) := by decide +kernel
theorem dX12_isStanding_34 : decode cX12_isStanding 34 = .ok (.ifCond .le 5, 3) := by decide +kernel
theorem dX12_isStanding_37 : decode cX12_isStanding 37 = .ok (.iconst 0, 1) := by decide +kernel
theorem dX12_isStanding_38 : decode cX12_isStanding 38 = .ok (.ireturn, 1) := by decide +kernel
theorem dX12_isStanding_39 : decode cX12_isStanding 39 = .ok (.iinc 2 1, 3) := by decide +kernel
theorem dX12_isStanding_42 : decode cX12_isStanding 42 = .ok (.goto (-40), 3) := by decide +kernel
theorem dX12_isStanding_45 : decode cX12_isStanding 45 = .ok (.iconst 1, 1) := by decide +kernel
theorem dX12_isStanding_46 : decode cX12_isStanding 46 = .ok (.ireturn, 1) := by decide +kernel
theorem dX12_begin_0 : decode cX12_begin 0 = .ok (.iconst 0, 1) := by decide +kernel
theorem dX12_begin_1 : decode cX12_begin 1 = .ok (.istore_n 1, 1) := by decide +kernel
theorem dX12_begin_2 : decode cX12_begin 2 = .ok (.iconst 0, 1) := by decide +kernel
theorem dX12_begin_3 : decode cX12_begin 3 = .ok (.istore_n 2, 1) := by decide +kernel
theorem dX12_begin_4 : decode cX12_begin 4 = .ok (.iload_n 2, 1) := by decide +kernel
theorem dX12_begin_5 : decode cX12_begin 5 = .ok (.aload_n 0, 1) := by decide +kernel
theorem dX12_begin_6 : decode cX12_begin 6 = .ok (.getfield 17, 3) := by decide +kernel
theorem dX12_begin_9 : decode cX12_begin 9 = .ok (.if_icmp .ge 22, 3) := by decide +kernel
theorem dX12_begin_12 : decode cX12_begin 12 = .ok (.aload_n 0, 1) := by decide +kernel
theorem dX12_begin_13 : decode cX12_begin 13 = .ok (.iload_n 1, 1) := by decide +kernel
theorem dX12_begin_14 : decode cX12_begin 14 = .ok (.iload_n 2, 1) := by decide +kernel
theorem dX12_begin_15 : decode cX12_begin 15 = .ok (.aload_n 0, 1) := by decide +kernel
theorem dX12_begin_16 : decode cX12_begin 16 = .ok (.getfield 20, 3) := by decide +kernel
theorem dX12_begin_19 : decode cX12_begin 19 = .ok (.iload_n 2, 1) := by decide +kernel
theorem dX12_begin_20 : decode cX12_begin 20 = .ok (.iaload, 1) := by decide +kernel
theorem dX12_begin_21 : decode cX12_begin 21 = .ok (.invokevirtual 91, 3) := by decide +kernel
theorem dX12_begin_24 : decode cX12_begin 24 = .ok (.istore_n 1, 1) := by decide +kernel
theorem dX12_begin_25 : decode cX12_begin 25 = .ok (.iinc 2 1, 3) := by decide +kernel
theorem dX12_begin_28 : decode cX12_begin 28 = .ok (.goto (-24), 3) := by decide +kernel
theorem dX12_begin_31 : decode cX12_begin 31 = .ok (.iload_n 1, 1) := by decide +kernel
theorem dX12_begin_32 : decode cX12_begin 32 = .ok (.ireturn, 1) := by decide +kernel
theorem dX12_least_0 : decode cX12_least 0 = .ok (.aload_n 0, 1) := by decide +kernel
theorem dX12_least_1 : decode cX12_least 1 = .ok (.getfield 17, 3) := by decide +kernel
theorem dX12_least_4 : decode cX12_least 4 = .ok (.iconst 1, 1) := by decide +kernel
theorem dX12_least_5 : decode cX12_least 5 = .ok (.if_icmp .ne 10, 3) := by decide +kernel
theorem dX12_least_8 : decode cX12_least 8 = .ok (.iload_n 1, 1) := by decide +kernel
theorem dX12_least_9 : decode cX12_least 9 = .ok (.iload 4, 2) := by decide +kernel
theorem dX12_least_11 : decode cX12_least 11 = .ok (.invokestatic 95, 3) := by decide +kernel
theorem dX12_least_14 : decode cX12_least 14 = .ok (.ireturn, 1) := by decide +kernel
theorem dX12_least_15 : decode cX12_least 15 = .ok (.aload_n 0, 1) := by decide +kernel
theorem dX12_least_16 : decode cX12_least 16 = .ok (.getfield 17, 3) := by decide +kernel
theorem dX12_least_19 : decode cX12_least 19 = .ok (.iconst 2, 1) := by decide +kernel
theorem dX12_least_20 : decode cX12_least 20 = .ok (.if_icmp .ne 48, 3) := by decide +kernel
theorem dX12_least_23 : decode cX12_least 23 = .ok (.iload_n 1, 1) := by decide +kernel
theorem dX12_least_24 : decode cX12_least 24 = .ok (.iload 4, 2) := by decide +kernel
theorem dX12_least_26 : decode cX12_least 26 = .ok (.invokestatic 95, 3) := by decide +kernel
theorem dX12_least_29 : decode cX12_least 29 = .ok (.iload_n 2, 1) := by decide +kernel
theorem dX12_least_30 : decode cX12_least 30 = .ok (.iload 5, 2) := by decide +kernel
theorem dX12_least_32 : decode cX12_least 32 = .ok (.invokestatic 95, 3) := by decide +kernel
theorem dX12_least_35 : decode cX12_least 35 = .ok (.iadd, 1) := by decide +kernel
theorem dX12_least_36 : decode cX12_least 36 = .ok (.istore 7, 2) := by decide +kernel
theorem dX12_least_38 : decode cX12_least 38 = .ok (.iload_n 1, 1) := by decide +kernel
theorem dX12_least_39 : decode cX12_least 39 = .ok (.iload 5, 2) := by decide +kernel
theorem dX12_least_41 : decode cX12_least 41 = .ok (.invokestatic 95, 3) := by decide +kernel
theorem dX12_least_44 : decode cX12_least 44 = .ok (.iload_n 2, 1) := by decide +kernel
theorem dX12_least_45 : decode cX12_least 45 = .ok (.iload 4, 2) := by decide +kernel
theorem dX12_least_47 : decode cX12_least 47 = .ok (.invokestatic 95, 3) := by decide +kernel
theorem dX12_least_50 : decode cX12_least 50 = .ok (.iadd, 1) := by decide +kernel
theorem dX12_least_51 : decode cX12_least 51 = .ok (.istore 8, 2) := by decide +kernel
theorem dX12_least_53 : decode cX12_least 53 = .ok (.iload 7, 2) := by decide +kernel
theorem dX12_least_55 : decode cX12_least 55 = .ok (.iload 8, 2) := by decide +kernel
theorem dX12_least_57 : decode cX12_least 57 = .ok (.if_icmp .ge 8, 3) := by decide +kernel
theorem dX12_least_60 : decode cX12_least 60 = .ok (.iload 7, 2) := by decide +kernel
theorem dX12_least_62 : decode cX12_least 62 = .ok (.goto 5, 3) := by decide +kernel
theorem dX12_least_65 : decode cX12_least 65 = .ok (.iload 8, 2) := by decide +kernel
theorem dX12_least_67 : decode cX12_least 67 = .ok (.ireturn, 1) := by decide +kernel
theorem dX12_least_68 : decode cX12_least 68 = .ok (.iload_n 1, 1) := by decide +kernel
theorem dX12_least_69 : decode cX12_least 69 = .ok (.iload 4, 2) := by decide +kernel
theorem dX12_least_71 : decode cX12_least 71 = .ok (.invokestatic 95, 3) := by decide +kernel
theorem dX12_least_74 : decode cX12_least 74 = .ok (.iload_n 2, 1) := by decide +kernel
theorem dX12_least_75 : decode cX12_least 75 = .ok (.iload 5, 2) := by decide +kernel
theorem dX12_least_77 : decode cX12_least 77 = .ok (.invokestatic 95, 3) := by decide +kernel
theorem dX12_least_80 : decode cX12_least 80 = .ok (.iadd, 1) := by decide +kernel
theorem dX12_least_81 : decode cX12_least 81 = .ok (.iload_n 3, 1) := by decide +kernel
theorem dX12_least_82 : decode cX12_least 82 = .ok (.iload 6, 2) := by decide +kernel
theorem dX12_least_84 : decode cX12_least 84 = .ok (.invokestatic 95, 3) := by decide +kernel
theorem dX12_least_87 : decode cX12_least 87 = .ok (.iadd, 1) := by decide +kernel
theorem dX12_least_88 : decode cX12_least 88 = .ok (.istore 7, 2) := by decide +kernel
theorem dX12_least_90 : decode cX12_least 90 = .ok (.iload_n 1, 1) := by decide +kernel
theorem dX12_least_91 : decode cX12_least 91 = .ok (.iload 4, 2) := by decide +kernel
theorem dX12_least_93 : decode cX12_least 93 = .ok (.invokestatic 95, 3) := by decide +kernel
theorem dX12_least_96 : decode cX12_least 96 = .ok (.iload_n 2, 1) := by decide +kernel
theorem dX12_least_97 : decode cX12_least 97 = .ok (.iload 6, 2) := by decide +kernel
theorem dX12_least_99 : decode cX12_least 99 = .ok (.invokestatic 95, 3) := by decide +kernel
theorem dX12_least_102 : decode cX12_least 102 = .ok (.iadd, 1) := by decide +kernel
theorem dX12_least_103 : decode cX12_least 103 = .ok (.iload_n 3, 1) := by decide +kernel
theorem dX12_least_104 : decode cX12_least 104 = .ok (.iload 5, 2) := by decide +kernel
theorem dX12_least_106 : decode cX12_least 106 = .ok (.invokestatic 95, 3) := by decide +kernel
theorem dX12_least_109 : decode cX12_least 109 = .ok (.iadd, 1) := by decide +kernel
theorem dX12_least_110 : decode cX12_least 110 = .ok (.istore 8, 2) := by decide +kernel
theorem dX12_least_112 : decode cX12_least 112 = .ok (.iload 8, 2) := by decide +kernel
theorem dX12_least_114 : decode cX12_least 114 = .ok (.iload 7, 2) := by decide +kernel
theorem dX12_least_116 : decode cX12_least 116 = .ok (.if_icmp .ge 8, 3) := by decide +kernel
theorem dX12_least_119 : decode cX12_least 119 = .ok (.iload 8, 2) := by decide +kernel
theorem dX12_least_121 : decode cX12_least 121 = .ok (.goto 5, 3) := by decide +kernel
theorem dX12_least_124 : decode cX12_least 124 = .ok (.iload 7, 2) := by decide +kernel
theorem dX12_least_126 : decode cX12_least 126 = .ok (.istore 7, 2) := by decide +kernel
theorem dX12_least_128 : decode cX12_least 128 = .ok (.iload_n 1, 1) := by decide +kernel
theorem dX12_least_129 : decode cX12_least 129 = .ok (.iload 5, 2) := by decide +kernel
theorem dX12_least_131 : decode cX12_least 131 = .ok (.invokestatic 95, 3) := by decide +kernel
theorem dX12_least_134 : decode cX12_least 134 = .ok (.iload_n 2, 1) := by decide +kernel
theorem dX12_least_135 : decode cX12_least 135 = .ok (.iload 4, 2) := by decide +kernel
theorem dX12_least_137 : decode cX12_least 137 = .ok (.invokestatic 95, 3) := by decide +kernel
theorem dX12_least_140 : decode cX12_least 140 = .ok (.iadd, 1) := by decide +kernel
theorem dX12_least_141 : decode cX12_least 141 = .ok (.iload_n 3, 1) := by decide +kernel
theorem dX12_least_142 : decode cX12_least 142 = .ok (.iload 6, 2) := by decide +kernel
theorem dX12_least_144 : decode cX12_least 144 = .ok (.invokestatic 95, 3) := by decide +kernel
theorem dX12_least_147 : decode cX12_least 147 = .ok (.iadd, 1) := by decide +kernel
theorem dX12_least_148 : decode cX12_least 148 = .ok (.istore 8, 2) := by decide +kernel
theorem dX12_least_150 : decode cX12_least 150 = .ok (.iload 8, 2) := by decide +kernel
theorem dX12_least_152 : decode cX12_least 152 = .ok (.iload 7, 2) := by decide +kernel
theorem dX12_least_154 : decode cX12_least 154 = .ok (.if_icmp .ge 8, 3) := by decide +kernel
theorem dX12_least_157 : decode cX12_least 157 = .ok (.iload 8, 2) := by decide +kernel
theorem dX12_least_159 : decode cX12_least 159 = .ok (.goto 5, 3) := by decide +kernel
theorem dX12_least_162 : decode cX12_least 162 = .ok (.iload 7, 2) := by decide +kernel
theorem dX12_least_164 : decode cX12_least 164 = .ok (.istore 7, 2) := by decide +kernel
theorem dX12_least_166 : decode cX12_least 166 = .ok (.iload_n 1, 1) := by decide +kernel
theorem dX12_least_167 : decode cX12_least 167 = .ok (.iload 5, 2) := by decide +kernel
theorem dX12_least_169 : decode cX12_least 169 = .ok (.invokestatic 95, 3) := by decide +kernel
theorem dX12_least_172 : decode cX12_least 172 = .ok (.iload_n 2, 1) := by decide +kernel
theorem dX12_least_173 : decode cX12_least 173 = .ok (.iload 6, 2) := by decide +kernel
theorem dX12_least_175 : decode cX12_least 175 = .ok (.invokestatic 95, 3) := by decide +kernel
theorem dX12_least_178 : decode cX12_least 178 = .ok (.iadd, 1) := by decide +kernel
theorem dX12_least_179 : decode cX12_least 179 = .ok (.iload_n 3, 1) := by decide +kernel
theorem dX12_least_180 : decode cX12_least 180 = .ok (.iload 4, 2) := by decide +kernel
theorem dX12_least_182 : decode cX12_least 182 = .ok (.invokestatic 95, 3) := by decide +kernel
theorem dX12_least_185 : decode cX12_least 185 = .ok (.iadd, 1) := by decide +kernel
theorem dX12_least_186 : decode cX12_least 186 = .ok (.istore 8, 2) := by decide +kernel
theorem dX12_least_188 : decode cX12_least 188 = .ok (.iload 8, 2) := by decide +kernel
theorem dX12_least_190 : decode cX12_least 190 = .ok (.iload 7, 2) := by decide +kernel
theorem dX12_least_192 : decode cX12_least 192 = .ok (.if_icmp .ge 8, 3) := by decide +kernel
theorem dX12_least_195 : decode cX12_least 195 = .ok (.iload 8, 2) := by decide +kernel
theorem dX12_least_197 : decode cX12_least 197 = .ok (.goto 5, 3) := by decide +kernel
theorem dX12_least_200 : decode cX12_least 200 = .ok (.iload 7, 2) := by decide +kernel
theorem dX12_least_202 : decode cX12_least 202 = .ok (.istore 7, 2) := by decide +kernel
theorem dX12_least_204 : decode cX12_least 204 = .ok (.iload_n 1, 1) := by decide +kernel
theorem dX12_least_205 : decode cX12_least 205 = .ok (.iload 6, 2) := by decide +kernel
theorem dX12_least_207 : decode cX12_least 207 = .ok (.invokestatic 95, 3) := by decide +kernel
theorem dX12_least_210 : decode cX12_least 210 = .ok (.iload_n 2, 1) := by decide +kernel
theorem dX12_least_211 : decode cX12_least 211 = .ok (.iload 4, 2) := by decide +kernel
theorem dX12_least_213 : decode cX12_least 213 = .ok (.invokestatic 95, 3) := by decide +kernel
theorem dX12_least_216 : decode cX12_least 216 = .ok (.iadd, 1) := by decide +kernel
theorem dX12_least_217 : decode cX12_least 217 = .ok (.iload_n 3, 1) := by decide +kernel
theorem dX12_least_218 : decode cX12_least 218 = .ok (.iload 5, 2) := by decide +kernel
theorem dX12_least_220 : decode cX12_least 220 = .ok (.invokestatic 95, 3) := by decide +kernel
theorem dX12_least_223 : decode cX12_least 223 = .ok (.iadd, 1) := by decide +kernel
theorem dX12_least_224 : decode cX12_least 224 = .ok (.istore 8, 2) := by decide +kernel
theorem dX12_least_226 : decode cX12_least 226 = .ok (.iload 8, 2) := by decide +kernel
theorem dX12_least_228 : decode cX12_least 228 = .ok (.iload 7, 2) := by decide +kernel
theorem dX12_least_230 : decode cX12_least 230 = .ok (.if_icmp .ge 8, 3) := by decide +kernel
theorem dX12_least_233 : decode cX12_least 233 = .ok (.iload 8, 2) := by decide +kernel
theorem dX12_least_235 : decode cX12_least 235 = .ok (.goto 5, 3) := by decide +kernel
end
section
theorem dX12_least_238 : decode cX12_least 238 = .ok (.iload 7, 2) := by decide +kernel
theorem dX12_least_240 : decode cX12_least 240 = .ok (.istore 7, 2) := by decide +kernel
theorem dX12_least_242 : decode cX12_least 242 = .ok (.iload_n 1, 1) := by decide +kernel
theorem dX12_least_243 : decode cX12_least 243 = .ok (.iload 6, 2) := by decide +kernel
theorem dX12_least_245 : decode cX12_least 245 = .ok (.invokestatic 95, 3) := by decide +kernel
theorem dX12_least_248 : decode cX12_least 248 = .ok (.iload_n 2, 1) := by decide +kernel
theorem dX12_least_249 : decode cX12_least 249 = .ok (.iload 5, 2) := by decide +kernel
theorem dX12_least_251 : decode cX12_least 251 = .ok (.invokestatic 95, 3) := by decide +kernel
theorem dX12_least_254 : decode cX12_least 254 = .ok (.iadd, 1) := by decide +kernel
theorem dX12_least_255 : decode cX12_least 255 = .ok (.iload_n 3, 1) := by decide +kernel
theorem dX12_least_256 : decode cX12_least 256 = .ok (.iload 4, 2) := by decide +kernel
theorem dX12_least_258 : decode cX12_least 258 = .ok (.invokestatic 95, 3) := by decide +kernel
theorem dX12_least_261 : decode cX12_least 261 = .ok (.iadd, 1) := by decide +kernel
theorem dX12_least_262 : decode cX12_least 262 = .ok (.istore 8, 2) := by decide +kernel
theorem dX12_least_264 : decode cX12_least 264 = .ok (.iload 8, 2) := by decide +kernel
theorem dX12_least_266 : decode cX12_least 266 = .ok (.iload 7, 2) := by decide +kernel
theorem dX12_least_268 : decode cX12_least 268 = .ok (.if_icmp .ge 8, 3) := by decide +kernel
theorem dX12_least_271 : decode cX12_least 271 = .ok (.iload 8, 2) := by decide +kernel
theorem dX12_least_273 : decode cX12_least 273 = .ok (.goto 5, 3) := by decide +kernel
theorem dX12_least_276 : decode cX12_least 276 = .ok (.iload 7, 2) := by decide +kernel
theorem dX12_least_278 : decode cX12_least 278 = .ok (.ireturn, 1) := by decide +kernel
theorem dX12_plans_0 : decode cX12_plans 0 = .ok (.iconst 0, 1) := by decide +kernel
theorem dX12_plans_1 : decode cX12_plans 1 = .ok (.istore_n 1, 1) := by decide +kernel
theorem dX12_plans_2 : decode cX12_plans 2 = .ok (.iload_n 1, 1) := by decide +kernel
theorem dX12_plans_3 : decode cX12_plans 3 = .ok (.sipush 216, 3) := by decide +kernel
theorem dX12_plans_6 : decode cX12_plans 6 = .ok (.if_icmp .ge 25, 3) := by decide +kernel
theorem dX12_plans_9 : decode cX12_plans 9 = .ok (.aload_n 0, 1) := by decide +kernel
theorem dX12_plans_10 : decode cX12_plans 10 = .ok (.getfield 29, 3) := by decide +kernel
theorem dX12_plans_13 : decode cX12_plans 13 = .ok (.sipush 216, 3) := by decide +kernel
theorem dX12_plans_16 : decode cX12_plans 16 = .ok (.aload_n 0, 1) := by decide +kernel
theorem dX12_plans_17 : decode cX12_plans 17 = .ok (.getfield 77, 3) := by decide +kernel
theorem dX12_plans_20 : decode cX12_plans 20 = .ok (.imul, 1) := by decide +kernel
theorem dX12_plans_21 : decode cX12_plans 21 = .ok (.iload_n 1, 1) := by decide +kernel
theorem dX12_plans_22 : decode cX12_plans 22 = .ok (.iadd, 1) := by decide +kernel
theorem dX12_plans_23 : decode cX12_plans 23 = .ok (.iconst 0, 1) := by decide +kernel
theorem dX12_plans_24 : decode cX12_plans 24 = .ok (.iastore, 1) := by decide +kernel
theorem dX12_plans_25 : decode cX12_plans 25 = .ok (.iinc 1 1, 3) := by decide +kernel
theorem dX12_plans_28 : decode cX12_plans 28 = .ok (.goto (-26), 3) := by decide +kernel
theorem dX12_plans_31 : decode cX12_plans 31 = .ok (.aload_n 0, 1) := by decide +kernel
theorem dX12_plans_32 : decode cX12_plans 32 = .ok (.getfield 77, 3) := by decide +kernel
theorem dX12_plans_35 : decode cX12_plans 35 = .ok (.iconst 1, 1) := by decide +kernel
theorem dX12_plans_36 : decode cX12_plans 36 = .ok (.isub, 1) := by decide +kernel
theorem dX12_plans_37 : decode cX12_plans 37 = .ok (.istore_n 1, 1) := by decide +kernel
theorem dX12_plans_38 : decode cX12_plans 38 = .ok (.iload_n 1, 1) := by decide +kernel
theorem dX12_plans_39 : decode cX12_plans 39 = .ok (.ifCond .lt 121, 3) := by decide +kernel
theorem dX12_plans_42 : decode cX12_plans 42 = .ok (.iconst 0, 1) := by decide +kernel
theorem dX12_plans_43 : decode cX12_plans 43 = .ok (.istore_n 2, 1) := by decide +kernel
theorem dX12_plans_44 : decode cX12_plans 44 = .ok (.iload_n 2, 1) := by decide +kernel
theorem dX12_plans_45 : decode cX12_plans 45 = .ok (.sipush 216, 3) := by decide +kernel
theorem dX12_plans_48 : decode cX12_plans 48 = .ok (.if_icmp .ge 106, 3) := by decide +kernel
theorem dX12_plans_51 : decode cX12_plans 51 = .ok (.ldc 98, 2) := by decide +kernel
theorem dX12_plans_53 : decode cX12_plans 53 = .ok (.istore_n 3, 1) := by decide +kernel
theorem dX12_plans_54 : decode cX12_plans 54 = .ok (.iconst 0, 1) := by decide +kernel
theorem dX12_plans_55 : decode cX12_plans 55 = .ok (.istore 4, 2) := by decide +kernel
theorem dX12_plans_57 : decode cX12_plans 57 = .ok (.iload 4, 2) := by decide +kernel
theorem dX12_plans_59 : decode cX12_plans 59 = .ok (.aload_n 0, 1) := by decide +kernel
theorem dX12_plans_60 : decode cX12_plans 60 = .ok (.getfield 17, 3) := by decide +kernel
theorem dX12_plans_63 : decode cX12_plans 63 = .ok (.if_icmp .ge 72, 3) := by decide +kernel
theorem dX12_plans_66 : decode cX12_plans 66 = .ok (.aload_n 0, 1) := by decide +kernel
theorem dX12_plans_67 : decode cX12_plans 67 = .ok (.iload_n 2, 1) := by decide +kernel
theorem dX12_plans_68 : decode cX12_plans 68 = .ok (.invokevirtual 99, 3) := by decide +kernel
theorem dX12_plans_71 : decode cX12_plans 71 = .ok (.ifCond .eq 64, 3) := by decide +kernel
theorem dX12_plans_74 : decode cX12_plans 74 = .ok (.aload_n 0, 1) := by decide +kernel
theorem dX12_plans_75 : decode cX12_plans 75 = .ok (.iload_n 2, 1) := by decide +kernel
theorem dX12_plans_76 : decode cX12_plans 76 = .ok (.iload 4, 2) := by decide +kernel
theorem dX12_plans_78 : decode cX12_plans 78 = .ok (.aload_n 0, 1) := by decide +kernel
theorem dX12_plans_79 : decode cX12_plans 79 = .ok (.getfield 26, 3) := by decide +kernel
theorem dX12_plans_82 : decode cX12_plans 82 = .ok (.iload_n 1, 1) := by decide +kernel
theorem dX12_plans_83 : decode cX12_plans 83 = .ok (.iaload, 1) := by decide +kernel
theorem dX12_plans_84 : decode cX12_plans 84 = .ok (.invokevirtual 102, 3) := by decide +kernel
theorem dX12_plans_87 : decode cX12_plans 87 = .ok (.aload_n 0, 1) := by decide +kernel
theorem dX12_plans_88 : decode cX12_plans 88 = .ok (.getfield 29, 3) := by decide +kernel
theorem dX12_plans_91 : decode cX12_plans 91 = .ok (.sipush 216, 3) := by decide +kernel
theorem dX12_plans_94 : decode cX12_plans 94 = .ok (.iload_n 1, 1) := by decide +kernel
theorem dX12_plans_95 : decode cX12_plans 95 = .ok (.iconst 1, 1) := by decide +kernel
theorem dX12_plans_96 : decode cX12_plans 96 = .ok (.iadd, 1) := by decide +kernel
theorem dX12_plans_97 : decode cX12_plans 97 = .ok (.imul, 1) := by decide +kernel
theorem dX12_plans_98 : decode cX12_plans 98 = .ok (.aload_n 0, 1) := by decide +kernel
theorem dX12_plans_99 : decode cX12_plans 99 = .ok (.iload_n 2, 1) := by decide +kernel
theorem dX12_plans_100 : decode cX12_plans 100 = .ok (.iload 4, 2) := by decide +kernel
theorem dX12_plans_102 : decode cX12_plans 102 = .ok (.aload_n 0, 1) := by decide +kernel
theorem dX12_plans_103 : decode cX12_plans 103 = .ok (.getfield 26, 3) := by decide +kernel
theorem dX12_plans_106 : decode cX12_plans 106 = .ok (.iload_n 1, 1) := by decide +kernel
theorem dX12_plans_107 : decode cX12_plans 107 = .ok (.iaload, 1) := by decide +kernel
theorem dX12_plans_108 : decode cX12_plans 108 = .ok (.invokevirtual 91, 3) := by decide +kernel
theorem dX12_plans_111 : decode cX12_plans 111 = .ok (.iadd, 1) := by decide +kernel
theorem dX12_plans_112 : decode cX12_plans 112 = .ok (.iaload, 1) := by decide +kernel
theorem dX12_plans_113 : decode cX12_plans 113 = .ok (.iadd, 1) := by decide +kernel
theorem dX12_plans_114 : decode cX12_plans 114 = .ok (.istore 5, 2) := by decide +kernel
theorem dX12_plans_116 : decode cX12_plans 116 = .ok (.iload 5, 2) := by decide +kernel
theorem dX12_plans_118 : decode cX12_plans 118 = .ok (.iload_n 3, 1) := by decide +kernel
theorem dX12_plans_119 : decode cX12_plans 119 = .ok (.if_icmp .ge 8, 3) := by decide +kernel
theorem dX12_plans_122 : decode cX12_plans 122 = .ok (.iload 5, 2) := by decide +kernel
theorem dX12_plans_124 : decode cX12_plans 124 = .ok (.goto 4, 3) := by decide +kernel
theorem dX12_plans_127 : decode cX12_plans 127 = .ok (.iload_n 3, 1) := by decide +kernel
theorem dX12_plans_128 : decode cX12_plans 128 = .ok (.istore_n 3, 1) := by decide +kernel
theorem dX12_plans_129 : decode cX12_plans 129 = .ok (.iinc 4 1, 3) := by decide +kernel
theorem dX12_plans_132 : decode cX12_plans 132 = .ok (.goto (-75), 3) := by decide +kernel
theorem dX12_plans_135 : decode cX12_plans 135 = .ok (.aload_n 0, 1) := by decide +kernel
theorem dX12_plans_136 : decode cX12_plans 136 = .ok (.getfield 29, 3) := by decide +kernel
theorem dX12_plans_139 : decode cX12_plans 139 = .ok (.sipush 216, 3) := by decide +kernel
theorem dX12_plans_142 : decode cX12_plans 142 = .ok (.iload_n 1, 1) := by decide +kernel
theorem dX12_plans_143 : decode cX12_plans 143 = .ok (.imul, 1) := by decide +kernel
theorem dX12_plans_144 : decode cX12_plans 144 = .ok (.iload_n 2, 1) := by decide +kernel
theorem dX12_plans_145 : decode cX12_plans 145 = .ok (.iadd, 1) := by decide +kernel
theorem dX12_plans_146 : decode cX12_plans 146 = .ok (.iload_n 3, 1) := by decide +kernel
theorem dX12_plans_147 : decode cX12_plans 147 = .ok (.iastore, 1) := by decide +kernel
theorem dX12_plans_148 : decode cX12_plans 148 = .ok (.iinc 2 1, 3) := by decide +kernel
theorem dX12_plans_151 : decode cX12_plans 151 = .ok (.goto (-107), 3) := by decide +kernel
theorem dX12_plans_154 : decode cX12_plans 154 = .ok (.iinc 1 (-1), 3) := by decide +kernel
theorem dX12_plans_157 : decode cX12_plans 157 = .ok (.goto (-119), 3) := by decide +kernel
theorem dX12_plans_160 : decode cX12_plans 160 = .ok (.aload_n 0, 1) := by decide +kernel
theorem dX12_plans_161 : decode cX12_plans 161 = .ok (.invokevirtual 105, 3) := by decide +kernel
theorem dX12_plans_164 : decode cX12_plans 164 = .ok (.istore_n 1, 1) := by decide +kernel
theorem dX12_plans_165 : decode cX12_plans 165 = .ok (.iconst 0, 1) := by decide +kernel
theorem dX12_plans_166 : decode cX12_plans 166 = .ok (.istore_n 2, 1) := by decide +kernel
theorem dX12_plans_167 : decode cX12_plans 167 = .ok (.iload_n 2, 1) := by decide +kernel
theorem dX12_plans_168 : decode cX12_plans 168 = .ok (.aload_n 0, 1) := by decide +kernel
theorem dX12_plans_169 : decode cX12_plans 169 = .ok (.getfield 77, 3) := by decide +kernel
theorem dX12_plans_172 : decode cX12_plans 172 = .ok (.if_icmp .ge 90, 3) := by decide +kernel
theorem dX12_plans_175 : decode cX12_plans 175 = .ok (.iconst 0, 1) := by decide +kernel
theorem dX12_plans_176 : decode cX12_plans 176 = .ok (.istore_n 3, 1) := by decide +kernel
theorem dX12_plans_177 : decode cX12_plans 177 = .ok (.aload_n 0, 1) := by decide +kernel
theorem dX12_plans_178 : decode cX12_plans 178 = .ok (.iload_n 1, 1) := by decide +kernel
theorem dX12_plans_179 : decode cX12_plans 179 = .ok (.iload_n 3, 1) := by decide +kernel
theorem dX12_plans_180 : decode cX12_plans 180 = .ok (.aload_n 0, 1) := by decide +kernel
theorem dX12_plans_181 : decode cX12_plans 181 = .ok (.getfield 26, 3) := by decide +kernel
theorem dX12_plans_184 : decode cX12_plans 184 = .ok (.iload_n 2, 1) := by decide +kernel
theorem dX12_plans_185 : decode cX12_plans 185 = .ok (.iaload, 1) := by decide +kernel
theorem dX12_plans_186 : decode cX12_plans 186 = .ok (.invokevirtual 102, 3) := by decide +kernel
theorem dX12_plans_189 : decode cX12_plans 189 = .ok (.aload_n 0, 1) := by decide +kernel
theorem dX12_plans_190 : decode cX12_plans 190 = .ok (.getfield 29, 3) := by decide +kernel
theorem dX12_plans_193 : decode cX12_plans 193 = .ok (.sipush 216, 3) := by decide +kernel
theorem dX12_plans_196 : decode cX12_plans 196 = .ok (.iload_n 2, 1) := by decide +kernel
theorem dX12_plans_197 : decode cX12_plans 197 = .ok (.iconst 1, 1) := by decide +kernel
theorem dX12_plans_198 : decode cX12_plans 198 = .ok (.iadd, 1) := by decide +kernel
theorem dX12_plans_199 : decode cX12_plans 199 = .ok (.imul, 1) := by decide +kernel
theorem dX12_plans_200 : decode cX12_plans 200 = .ok (.aload_n 0, 1) := by decide +kernel
theorem dX12_plans_201 : decode cX12_plans 201 = .ok (.iload_n 1, 1) := by decide +kernel
theorem dX12_plans_202 : decode cX12_plans 202 = .ok (.iload_n 3, 1) := by decide +kernel
theorem dX12_plans_203 : decode cX12_plans 203 = .ok (.aload_n 0, 1) := by decide +kernel
theorem dX12_plans_204 : decode cX12_plans 204 = .ok (.getfield 26, 3) := by decide +kernel
theorem dX12_plans_207 : decode cX12_plans 207 = .ok (.iload_n 2, 1) := by decide +kernel
theorem dX12_plans_208 : decode cX12_plans 208 = .ok (.iaload, 1) := by decide +kernel
theorem dX12_plans_209 : decode cX12_plans 209 = .ok (.invokevirtual 91, 3) := by decide +kernel
theorem dX12_plans_212 : decode cX12_plans 212 = .ok (.iadd, 1) := by decide +kernel
theorem dX12_plans_213 : decode cX12_plans 213 = .ok (.iaload, 1) := by decide +kernel
theorem dX12_plans_214 : decode cX12_plans 214 = .ok (.iadd, 1) := by decide +kernel
theorem dX12_plans_215 : decode cX12_plans 215 = .ok (.aload_n 0, 1) := by decide +kernel
theorem dX12_plans_216 : decode cX12_plans 216 = .ok (.getfield 29, 3) := by decide +kernel
theorem dX12_plans_219 : decode cX12_plans 219 = .ok (.sipush 216, 3) := by decide +kernel
theorem dX12_plans_222 : decode cX12_plans 222 = .ok (.iload_n 2, 1) := by decide +kernel
theorem dX12_plans_223 : decode cX12_plans 223 = .ok (.imul, 1) := by decide +kernel
theorem dX12_plans_224 : decode cX12_plans 224 = .ok (.iload_n 1, 1) := by decide +kernel
theorem dX12_plans_225 : decode cX12_plans 225 = .ok (.iadd, 1) := by decide +kernel
theorem dX12_plans_226 : decode cX12_plans 226 = .ok (.iaload, 1) := by decide +kernel
theorem dX12_plans_227 : decode cX12_plans 227 = .ok (.if_icmp .eq 9, 3) := by decide +kernel
theorem dX12_plans_230 : decode cX12_plans 230 = .ok (.iinc 3 1, 3) := by decide +kernel
theorem dX12_plans_233 : decode cX12_plans 233 = .ok (.goto (-56), 3) := by decide +kernel
theorem dX12_plans_236 : decode cX12_plans 236 = .ok (.aload_n 0, 1) := by decide +kernel
theorem dX12_plans_237 : decode cX12_plans 237 = .ok (.getfield 32, 3) := by decide +kernel
theorem dX12_plans_240 : decode cX12_plans 240 = .ok (.iload_n 2, 1) := by decide +kernel
theorem dX12_plans_241 : decode cX12_plans 241 = .ok (.iload_n 3, 1) := by decide +kernel
theorem dX12_plans_242 : decode cX12_plans 242 = .ok (.iastore, 1) := by decide +kernel
theorem dX12_plans_243 : decode cX12_plans 243 = .ok (.aload_n 0, 1) := by decide +kernel
theorem dX12_plans_244 : decode cX12_plans 244 = .ok (.iload_n 1, 1) := by decide +kernel
theorem dX12_plans_245 : decode cX12_plans 245 = .ok (.iload_n 3, 1) := by decide +kernel
theorem dX12_plans_246 : decode cX12_plans 246 = .ok (.aload_n 0, 1) := by decide +kernel
theorem dX12_plans_247 : decode cX12_plans 247 = .ok (.getfield 26, 3) := by decide +kernel
theorem dX12_plans_250 : decode cX12_plans 250 = .ok (.iload_n 2, 1) := by decide +kernel
theorem dX12_plans_251 : decode cX12_plans 251 = .ok (.iaload, 1) := by decide +kernel
theorem dX12_plans_252 : decode cX12_plans 252 = .ok (.invokevirtual 91, 3) := by decide +kernel
theorem dX12_plans_255 : decode cX12_plans 255 = .ok (.istore_n 1, 1) := by decide +kernel
theorem dX12_plans_256 : decode cX12_plans 256 = .ok (.iinc 2 1, 3) := by decide +kernel
theorem dX12_plans_259 : decode cX12_plans 259 = .ok (.goto (-92), 3) := by decide +kernel
theorem dX12_plans_262 : decode cX12_plans 262 = .ok (.return_, 1) := by decide +kernel
theorem dX12_wayTo_0 : decode cX12_wayTo 0 = .ok (.aload_n 0, 1) := by decide +kernel
theorem dX12_wayTo_1 : decode cX12_wayTo 1 = .ok (.getfield 13, 3) := by decide +kernel
theorem dX12_wayTo_4 : decode cX12_wayTo 4 = .ok (.aload_n 0, 1) := by decide +kernel
theorem dX12_wayTo_5 : decode cX12_wayTo 5 = .ok (.iload_n 1, 1) := by decide +kernel
theorem dX12_wayTo_6 : decode cX12_wayTo 6 = .ok (.iload_n 2, 1) := by decide +kernel
theorem dX12_wayTo_7 : decode cX12_wayTo 7 = .ok (.invokevirtual 87, 3) := by decide +kernel
theorem dX12_wayTo_10 : decode cX12_wayTo 10 = .ok (.iaload, 1) := by decide +kernel
theorem dX12_wayTo_11 : decode cX12_wayTo 11 = .ok (.aload_n 0, 1) := by decide +kernel
theorem dX12_wayTo_12 : decode cX12_wayTo 12 = .ok (.getfield 13, 3) := by decide +kernel
theorem dX12_wayTo_15 : decode cX12_wayTo 15 = .ok (.iload_n 3, 1) := by decide +kernel
theorem dX12_wayTo_16 : decode cX12_wayTo 16 = .ok (.iaload, 1) := by decide +kernel
theorem dX12_wayTo_17 : decode cX12_wayTo 17 = .ok (.invokestatic 95, 3) := by decide +kernel
theorem dX12_wayTo_20 : decode cX12_wayTo 20 = .ok (.ireturn, 1) := by decide +kernel
theorem dX12_bestCost_0 : decode cX12_bestCost 0 = .ok (.aload_n 0, 1) := by decide +kernel
theorem dX12_bestCost_1 : decode cX12_bestCost 1 = .ok (.invokevirtual 109, 3) := by decide +kernel
theorem dX12_bestCost_4 : decode cX12_bestCost 4 = .ok (.aload_n 0, 1) := by decide +kernel
theorem dX12_bestCost_5 : decode cX12_bestCost 5 = .ok (.getfield 29, 3) := by decide +kernel
theorem dX12_bestCost_8 : decode cX12_bestCost 8 = .ok (.aload_n 0, 1) := by decide +kernel
theorem dX12_bestCost_9 : decode cX12_bestCost 9 = .ok (.invokevirtual 105, 3) := by decide +kernel
theorem dX12_bestCost_12 : decode cX12_bestCost 12 = .ok (.iaload, 1) := by decide +kernel
theorem dX12_bestCost_13 : decode cX12_bestCost 13 = .ok (.ireturn, 1) := by decide +kernel
theorem dX12_best_0 : decode cX12_best 0 = .ok (.aload_n 0, 1) := by decide +kernel
theorem dX12_best_1 : decode cX12_best 1 = .ok (.invokevirtual 83, 3) := by decide +kernel
theorem dX12_best_4 : decode cX12_best 4 = .ok (.ifCond .eq 10, 3) := by decide +kernel
theorem dX12_best_7 : decode cX12_best 7 = .ok (.aload_n 0, 1) := by decide +kernel
theorem dX12_best_8 : decode cX12_best 8 = .ok (.invokevirtual 112, 3) := by decide +kernel
theorem dX12_best_11 : decode cX12_best 11 = .ok (.goto 5, 3) := by decide +kernel
theorem dX12_best_14 : decode cX12_best 14 = .ok (.bipush (-11), 2) := by decide +kernel
theorem dX12_best_16 : decode cX12_best 16 = .ok (.ireturn, 1) := by decide +kernel
theorem dX12_way_0 : decode cX12_way 0 = .ok (.iload_n 1, 1) := by decide +kernel
theorem dX12_way_1 : decode cX12_way 1 = .ok (.iconst 0, 1) := by decide +kernel
theorem dX12_way_2 : decode cX12_way 2 = .ok (.bipush 39, 2) := by decide +kernel
theorem dX12_way_4 : decode cX12_way 4 = .ok (.invokestatic 69, 3) := by decide +kernel
theorem dX12_way_7 : decode cX12_way 7 = .ok (.ifCond .ne 6, 3) := by decide +kernel
theorem dX12_way_10 : decode cX12_way 10 = .ok (.bipush (-2), 2) := by decide +kernel
theorem dX12_way_12 : decode cX12_way 12 = .ok (.ireturn, 1) := by decide +kernel
theorem dX12_way_13 : decode cX12_way 13 = .ok (.aload_n 0, 1) := by decide +kernel
theorem dX12_way_14 : decode cX12_way 14 = .ok (.invokevirtual 83, 3) := by decide +kernel
theorem dX12_way_17 : decode cX12_way 17 = .ok (.ifCond .ne 6, 3) := by decide +kernel
theorem dX12_way_20 : decode cX12_way 20 = .ok (.bipush (-11), 2) := by decide +kernel
theorem dX12_way_22 : decode cX12_way 22 = .ok (.ireturn, 1) := by decide +kernel
theorem dX12_way_23 : decode cX12_way 23 = .ok (.aload_n 0, 1) := by decide +kernel
theorem dX12_way_24 : decode cX12_way 24 = .ok (.invokevirtual 109, 3) := by decide +kernel
theorem dX12_way_27 : decode cX12_way 27 = .ok (.iload_n 1, 1) := by decide +kernel
theorem dX12_way_28 : decode cX12_way 28 = .ok (.aload_n 0, 1) := by decide +kernel
theorem dX12_way_29 : decode cX12_way 29 = .ok (.getfield 77, 3) := by decide +kernel
theorem dX12_way_32 : decode cX12_way 32 = .ok (.if_icmp .ge 12, 3) := by decide +kernel
theorem dX12_way_35 : decode cX12_way 35 = .ok (.aload_n 0, 1) := by decide +kernel
theorem dX12_way_36 : decode cX12_way 36 = .ok (.getfield 32, 3) := by decide +kernel
theorem dX12_way_39 : decode cX12_way 39 = .ok (.iload_n 1, 1) := by decide +kernel
theorem dX12_way_40 : decode cX12_way 40 = .ok (.iaload, 1) := by decide +kernel
theorem dX12_way_41 : decode cX12_way 41 = .ok (.goto 4, 3) := by decide +kernel
theorem dX12_way_44 : decode cX12_way 44 = .ok (.iconst (-1), 1) := by decide +kernel
theorem dX12_way_45 : decode cX12_way 45 = .ok (.ireturn, 1) := by decide +kernel
theorem dX12_starts_0 : decode cX12_starts 0 = .ok (.iconst 0, 1) := by decide +kernel
theorem dX12_starts_1 : decode cX12_starts 1 = .ok (.istore_n 1, 1) := by decide +kernel
theorem dX12_starts_2 : decode cX12_starts 2 = .ok (.iload_n 1, 1) := by decide +kernel
theorem dX12_starts_3 : decode cX12_starts 3 = .ok (.iconst 3, 1) := by decide +kernel
theorem dX12_starts_4 : decode cX12_starts 4 = .ok (.if_icmp .ge 38, 3) := by decide +kernel
theorem dX12_starts_7 : decode cX12_starts 7 = .ok (.aload_n 0, 1) := by decide +kernel
theorem dX12_starts_8 : decode cX12_starts 8 = .ok (.getfield 35, 3) := by decide +kernel
theorem dX12_starts_11 : decode cX12_starts 11 = .ok (.iload_n 1, 1) := by decide +kernel
theorem dX12_starts_12 : decode cX12_starts 12 = .ok (.iload_n 1, 1) := by decide +kernel
theorem dX12_starts_13 : decode cX12_starts 13 = .ok (.aload_n 0, 1) := by decide +kernel
theorem dX12_starts_14 : decode cX12_starts 14 = .ok (.getfield 17, 3) := by decide +kernel
theorem dX12_starts_17 : decode cX12_starts 17 = .ok (.if_icmp .ge 17, 3) := by decide +kernel
theorem dX12_starts_20 : decode cX12_starts 20 = .ok (.aload_n 0, 1) := by decide +kernel
theorem dX12_starts_21 : decode cX12_starts 21 = .ok (.getfield 13, 3) := by decide +kernel
theorem dX12_starts_24 : decode cX12_starts 24 = .ok (.aload_n 0, 1) := by decide +kernel
theorem dX12_starts_25 : decode cX12_starts 25 = .ok (.getfield 20, 3) := by decide +kernel
theorem dX12_starts_28 : decode cX12_starts 28 = .ok (.iload_n 1, 1) := by decide +kernel
theorem dX12_starts_29 : decode cX12_starts 29 = .ok (.iaload, 1) := by decide +kernel
theorem dX12_starts_30 : decode cX12_starts 30 = .ok (.iaload, 1) := by decide +kernel
theorem dX12_starts_31 : decode cX12_starts 31 = .ok (.goto 4, 3) := by decide +kernel
theorem dX12_starts_34 : decode cX12_starts 34 = .ok (.iconst 0, 1) := by decide +kernel
theorem dX12_starts_35 : decode cX12_starts 35 = .ok (.iastore, 1) := by decide +kernel
theorem dX12_starts_36 : decode cX12_starts 36 = .ok (.iinc 1 1, 3) := by decide +kernel
theorem dX12_starts_39 : decode cX12_starts 39 = .ok (.goto (-37), 3) := by decide +kernel
theorem dX12_starts_42 : decode cX12_starts 42 = .ok (.aload_n 0, 1) := by decide +kernel
theorem dX12_starts_43 : decode cX12_starts 43 = .ok (.iconst 0, 1) := by decide +kernel
theorem dX12_starts_44 : decode cX12_starts 44 = .ok (.putfield 115, 3) := by decide +kernel
theorem dX12_starts_47 : decode cX12_starts 47 = .ok (.aload_n 0, 1) := by decide +kernel
theorem dX12_starts_48 : decode cX12_starts 48 = .ok (.iconst (-1), 1) := by decide +kernel
theorem dX12_starts_49 : decode cX12_starts 49 = .ok (.putfield 118, 3) := by decide +kernel
theorem dX12_starts_52 : decode cX12_starts 52 = .ok (.return_, 1) := by decide +kernel
theorem dX12_sends_0 : decode cX12_sends 0 = .ok (.aload_n 0, 1) := by decide +kernel
theorem dX12_sends_1 : decode cX12_sends 1 = .ok (.dup, 1) := by decide +kernel
theorem dX12_sends_2 : decode cX12_sends 2 = .ok (.getfield 115, 3) := by decide +kernel
theorem dX12_sends_5 : decode cX12_sends 5 = .ok (.aload_n 0, 1) := by decide +kernel
theorem dX12_sends_6 : decode cX12_sends 6 = .ok (.getfield 35, 3) := by decide +kernel
theorem dX12_sends_9 : decode cX12_sends 9 = .ok (.iload_n 1, 1) := by decide +kernel
theorem dX12_sends_10 : decode cX12_sends 10 = .ok (.iaload, 1) := by decide +kernel
theorem dX12_sends_11 : decode cX12_sends 11 = .ok (.iload_n 2, 1) := by decide +kernel
theorem dX12_sends_12 : decode cX12_sends 12 = .ok (.invokestatic 95, 3) := by decide +kernel
theorem dX12_sends_15 : decode cX12_sends 15 = .ok (.iadd, 1) := by decide +kernel
theorem dX12_sends_16 : decode cX12_sends 16 = .ok (.putfield 115, 3) := by decide +kernel
theorem dX12_sends_19 : decode cX12_sends 19 = .ok (.aload_n 0, 1) := by decide +kernel
theorem dX12_sends_20 : decode cX12_sends 20 = .ok (.getfield 35, 3) := by decide +kernel
theorem dX12_sends_23 : decode cX12_sends 23 = .ok (.iload_n 1, 1) := by decide +kernel
theorem dX12_sends_24 : decode cX12_sends 24 = .ok (.iload_n 2, 1) := by decide +kernel
theorem dX12_sends_25 : decode cX12_sends 25 = .ok (.iastore, 1) := by decide +kernel
theorem dX12_sends_26 : decode cX12_sends 26 = .ok (.aload_n 0, 1) := by decide +kernel
theorem dX12_sends_27 : decode cX12_sends 27 = .ok (.iload_n 1, 1) := by decide +kernel
theorem dX12_sends_28 : decode cX12_sends 28 = .ok (.putfield 118, 3) := by decide +kernel
theorem dX12_sends_31 : decode cX12_sends 31 = .ok (.return_, 1) := by decide +kernel
theorem dX12_nearest_0 : decode cX12_nearest 0 = .ok (.iconst 0, 1) := by decide +kernel
theorem dX12_nearest_1 : decode cX12_nearest 1 = .ok (.istore_n 2, 1) := by decide +kernel
theorem dX12_nearest_2 : decode cX12_nearest 2 = .ok (.iconst 1, 1) := by decide +kernel
theorem dX12_nearest_3 : decode cX12_nearest 3 = .ok (.istore_n 3, 1) := by decide +kernel
theorem dX12_nearest_4 : decode cX12_nearest 4 = .ok (.iload_n 3, 1) := by decide +kernel
theorem dX12_nearest_5 : decode cX12_nearest 5 = .ok (.aload_n 0, 1) := by decide +kernel
theorem dX12_nearest_6 : decode cX12_nearest 6 = .ok (.getfield 17, 3) := by decide +kernel
theorem dX12_nearest_9 : decode cX12_nearest 9 = .ok (.if_icmp .ge 38, 3) := by decide +kernel
theorem dX12_nearest_12 : decode cX12_nearest 12 = .ok (.aload_n 0, 1) := by decide +kernel
theorem dX12_nearest_13 : decode cX12_nearest 13 = .ok (.getfield 35, 3) := by decide +kernel
theorem dX12_nearest_16 : decode cX12_nearest 16 = .ok (.iload_n 3, 1) := by decide +kernel
theorem dX12_nearest_17 : decode cX12_nearest 17 = .ok (.iaload, 1) := by decide +kernel
theorem dX12_nearest_18 : decode cX12_nearest 18 = .ok (.iload_n 1, 1) := by decide +kernel
theorem dX12_nearest_19 : decode cX12_nearest 19 = .ok (.invokestatic 95, 3) := by decide +kernel
theorem dX12_nearest_22 : decode cX12_nearest 22 = .ok (.aload_n 0, 1) := by decide +kernel
theorem dX12_nearest_23 : decode cX12_nearest 23 = .ok (.getfield 35, 3) := by decide +kernel
theorem dX12_nearest_26 : decode cX12_nearest 26 = .ok (.iload_n 2, 1) := by decide +kernel
theorem dX12_nearest_27 : decode cX12_nearest 27 = .ok (.iaload, 1) := by decide +kernel
theorem dX12_nearest_28 : decode cX12_nearest 28 = .ok (.iload_n 1, 1) := by decide +kernel
theorem dX12_nearest_29 : decode cX12_nearest 29 = .ok (.invokestatic 95, 3) := by decide +kernel
theorem dX12_nearest_32 : decode cX12_nearest 32 = .ok (.if_icmp .ge 7, 3) := by decide +kernel
theorem dX12_nearest_35 : decode cX12_nearest 35 = .ok (.iload_n 3, 1) := by decide +kernel
theorem dX12_nearest_36 : decode cX12_nearest 36 = .ok (.goto 4, 3) := by decide +kernel
theorem dX12_nearest_39 : decode cX12_nearest 39 = .ok (.iload_n 2, 1) := by decide +kernel
theorem dX12_nearest_40 : decode cX12_nearest 40 = .ok (.istore_n 2, 1) := by decide +kernel
theorem dX12_nearest_41 : decode cX12_nearest 41 = .ok (.iinc 3 1, 3) := by decide +kernel
theorem dX12_nearest_44 : decode cX12_nearest 44 = .ok (.goto (-40), 3) := by decide +kernel
theorem dX12_nearest_47 : decode cX12_nearest 47 = .ok (.iload_n 2, 1) := by decide +kernel
theorem dX12_nearest_48 : decode cX12_nearest 48 = .ok (.ireturn, 1) := by decide +kernel
theorem dX12_nearestOn_0 : decode cX12_nearestOn 0 = .ok (.iconst (-1), 1) := by decide +kernel
theorem dX12_nearestOn_1 : decode cX12_nearestOn 1 = .ok (.istore_n 3, 1) := by decide +kernel
theorem dX12_nearestOn_2 : decode cX12_nearestOn 2 = .ok (.iconst 0, 1) := by decide +kernel
theorem dX12_nearestOn_3 : decode cX12_nearestOn 3 = .ok (.istore 4, 2) := by decide +kernel
theorem dX12_nearestOn_5 : decode cX12_nearestOn 5 = .ok (.iload 4, 2) := by decide +kernel
theorem dX12_nearestOn_7 : decode cX12_nearestOn 7 = .ok (.aload_n 0, 1) := by decide +kernel
theorem dX12_nearestOn_8 : decode cX12_nearestOn 8 = .ok (.getfield 17, 3) := by decide +kernel
theorem dX12_nearestOn_11 : decode cX12_nearestOn 11 = .ok (.if_icmp .ge 91, 3) := by decide +kernel
theorem dX12_nearestOn_14 : decode cX12_nearestOn 14 = .ok (.iload_n 2, 1) := by decide +kernel
theorem dX12_nearestOn_15 : decode cX12_nearestOn 15 = .ok (.ifCond .eq 22, 3) := by decide +kernel
theorem dX12_nearestOn_18 : decode cX12_nearestOn 18 = .ok (.aload_n 0, 1) := by decide +kernel
theorem dX12_nearestOn_19 : decode cX12_nearestOn 19 = .ok (.getfield 35, 3) := by decide +kernel
theorem dX12_nearestOn_22 : decode cX12_nearestOn 22 = .ok (.iload 4, 2) := by decide +kernel
theorem dX12_nearestOn_24 : decode cX12_nearestOn 24 = .ok (.iaload, 1) := by decide +kernel
theorem dX12_nearestOn_25 : decode cX12_nearestOn 25 = .ok (.iload_n 1, 1) := by decide +kernel
theorem dX12_nearestOn_26 : decode cX12_nearestOn 26 = .ok (.if_icmp .ge 7, 3) := by decide +kernel
theorem dX12_nearestOn_29 : decode cX12_nearestOn 29 = .ok (.iconst 1, 1) := by decide +kernel
theorem dX12_nearestOn_30 : decode cX12_nearestOn 30 = .ok (.goto 23, 3) := by decide +kernel
theorem dX12_nearestOn_33 : decode cX12_nearestOn 33 = .ok (.iconst 0, 1) := by decide +kernel
theorem dX12_nearestOn_34 : decode cX12_nearestOn 34 = .ok (.goto 19, 3) := by decide +kernel
theorem dX12_nearestOn_37 : decode cX12_nearestOn 37 = .ok (.aload_n 0, 1) := by decide +kernel
theorem dX12_nearestOn_38 : decode cX12_nearestOn 38 = .ok (.getfield 35, 3) := by decide +kernel
theorem dX12_nearestOn_41 : decode cX12_nearestOn 41 = .ok (.iload 4, 2) := by decide +kernel
theorem dX12_nearestOn_43 : decode cX12_nearestOn 43 = .ok (.iaload, 1) := by decide +kernel
theorem dX12_nearestOn_44 : decode cX12_nearestOn 44 = .ok (.iload_n 1, 1) := by decide +kernel
theorem dX12_nearestOn_45 : decode cX12_nearestOn 45 = .ok (.if_icmp .le 7, 3) := by decide +kernel
theorem dX12_nearestOn_48 : decode cX12_nearestOn 48 = .ok (.iconst 1, 1) := by decide +kernel
theorem dX12_nearestOn_49 : decode cX12_nearestOn 49 = .ok (.goto 4, 3) := by decide +kernel
theorem dX12_nearestOn_52 : decode cX12_nearestOn 52 = .ok (.iconst 0, 1) := by decide +kernel
theorem dX12_nearestOn_53 : decode cX12_nearestOn 53 = .ok (.istore 5, 2) := by decide +kernel
theorem dX12_nearestOn_55 : decode cX12_nearestOn 55 = .ok (.iload 5, 2) := by decide +kernel
theorem dX12_nearestOn_57 : decode cX12_nearestOn 57 = .ok (.ifCond .eq 37, 3) := by decide +kernel
theorem dX12_nearestOn_60 : decode cX12_nearestOn 60 = .ok (.iload_n 3, 1) := by decide +kernel
theorem dX12_nearestOn_61 : decode cX12_nearestOn 61 = .ok (.iconst (-1), 1) := by decide +kernel
theorem dX12_nearestOn_62 : decode cX12_nearestOn 62 = .ok (.if_icmp .eq 27, 3) := by decide +kernel
theorem dX12_nearestOn_65 : decode cX12_nearestOn 65 = .ok (.aload_n 0, 1) := by decide +kernel
theorem dX12_nearestOn_66 : decode cX12_nearestOn 66 = .ok (.getfield 35, 3) := by decide +kernel
theorem dX12_nearestOn_69 : decode cX12_nearestOn 69 = .ok (.iload 4, 2) := by decide +kernel
theorem dX12_nearestOn_71 : decode cX12_nearestOn 71 = .ok (.iaload, 1) := by decide +kernel
theorem dX12_nearestOn_72 : decode cX12_nearestOn 72 = .ok (.iload_n 1, 1) := by decide +kernel
theorem dX12_nearestOn_73 : decode cX12_nearestOn 73 = .ok (.invokestatic 95, 3) := by decide +kernel
theorem dX12_nearestOn_76 : decode cX12_nearestOn 76 = .ok (.aload_n 0, 1) := by decide +kernel
theorem dX12_nearestOn_77 : decode cX12_nearestOn 77 = .ok (.getfield 35, 3) := by decide +kernel
theorem dX12_nearestOn_80 : decode cX12_nearestOn 80 = .ok (.iload_n 3, 1) := by decide +kernel
theorem dX12_nearestOn_81 : decode cX12_nearestOn 81 = .ok (.iaload, 1) := by decide +kernel
theorem dX12_nearestOn_82 : decode cX12_nearestOn 82 = .ok (.iload_n 1, 1) := by decide +kernel
theorem dX12_nearestOn_83 : decode cX12_nearestOn 83 = .ok (.invokestatic 95, 3) := by decide +kernel
theorem dX12_nearestOn_86 : decode cX12_nearestOn 86 = .ok (.if_icmp .ge 8, 3) := by decide +kernel
theorem dX12_nearestOn_89 : decode cX12_nearestOn 89 = .ok (.iload 4, 2) := by decide +kernel
theorem dX12_nearestOn_91 : decode cX12_nearestOn 91 = .ok (.goto 4, 3) := by decide +kernel
theorem dX12_nearestOn_94 : decode cX12_nearestOn 94 = .ok (.iload_n 3, 1) := by decide +kernel
theorem dX12_nearestOn_95 : decode cX12_nearestOn 95 = .ok (.istore_n 3, 1) := by decide +kernel
theorem dX12_nearestOn_96 : decode cX12_nearestOn 96 = .ok (.iinc 4 1, 3) := by decide +kernel
theorem dX12_nearestOn_99 : decode cX12_nearestOn 99 = .ok (.goto (-94), 3) := by decide +kernel
theorem dX12_nearestOn_102 : decode cX12_nearestOn 102 = .ok (.iload_n 3, 1) := by decide +kernel
theorem dX12_nearestOn_103 : decode cX12_nearestOn 103 = .ok (.ireturn, 1) := by decide +kernel
theorem dX12_both_0 : decode cX12_both 0 = .ok (.iconst 0, 1) := by decide +kernel
theorem dX12_both_1 : decode cX12_both 1 = .ok (.istore_n 2, 1) := by decide +kernel
theorem dX12_both_2 : decode cX12_both 2 = .ok (.iload_n 2, 1) := by decide +kernel
theorem dX12_both_3 : decode cX12_both 3 = .ok (.aload_n 0, 1) := by decide +kernel
theorem dX12_both_4 : decode cX12_both 4 = .ok (.getfield 17, 3) := by decide +kernel
theorem dX12_both_7 : decode cX12_both 7 = .ok (.if_icmp .ge 20, 3) := by decide +kernel
theorem dX12_both_10 : decode cX12_both 10 = .ok (.aload_n 0, 1) := by decide +kernel
theorem dX12_both_11 : decode cX12_both 11 = .ok (.getfield 35, 3) := by decide +kernel
theorem dX12_both_14 : decode cX12_both 14 = .ok (.iload_n 2, 1) := by decide +kernel
theorem dX12_both_15 : decode cX12_both 15 = .ok (.iaload, 1) := by decide +kernel
theorem dX12_both_16 : decode cX12_both 16 = .ok (.iload_n 1, 1) := by decide +kernel
theorem dX12_both_17 : decode cX12_both 17 = .ok (.if_icmp .ne 4, 3) := by decide +kernel
theorem dX12_both_20 : decode cX12_both 20 = .ok (.return_, 1) := by decide +kernel
theorem dX12_both_21 : decode cX12_both 21 = .ok (.iinc 2 1, 3) := by decide +kernel
theorem dX12_both_24 : decode cX12_both 24 = .ok (.goto (-22), 3) := by decide +kernel
theorem dX12_both_27 : decode cX12_both 27 = .ok (.aload_n 0, 1) := by decide +kernel
theorem dX12_both_28 : decode cX12_both 28 = .ok (.iload_n 1, 1) := by decide +kernel
theorem dX12_both_29 : decode cX12_both 29 = .ok (.iconst 1, 1) := by decide +kernel
theorem dX12_both_30 : decode cX12_both 30 = .ok (.invokevirtual 121, 3) := by decide +kernel
theorem dX12_both_33 : decode cX12_both 33 = .ok (.istore_n 2, 1) := by decide +kernel
theorem dX12_both_34 : decode cX12_both 34 = .ok (.aload_n 0, 1) := by decide +kernel
theorem dX12_both_35 : decode cX12_both 35 = .ok (.iload_n 1, 1) := by decide +kernel
theorem dX12_both_36 : decode cX12_both 36 = .ok (.iconst 0, 1) := by decide +kernel
theorem dX12_both_37 : decode cX12_both 37 = .ok (.invokevirtual 121, 3) := by decide +kernel
theorem dX12_both_40 : decode cX12_both 40 = .ok (.istore_n 3, 1) := by decide +kernel
theorem dX12_both_41 : decode cX12_both 41 = .ok (.iload_n 2, 1) := by decide +kernel
theorem dX12_both_42 : decode cX12_both 42 = .ok (.iconst (-1), 1) := by decide +kernel
theorem dX12_both_43 : decode cX12_both 43 = .ok (.if_icmp .eq 8, 3) := by decide +kernel
theorem dX12_both_46 : decode cX12_both 46 = .ok (.iload_n 3, 1) := by decide +kernel
theorem dX12_both_47 : decode cX12_both 47 = .ok (.iconst (-1), 1) := by decide +kernel
theorem dX12_both_48 : decode cX12_both 48 = .ok (.if_icmp .ne 19, 3) := by decide +kernel
theorem dX12_both_51 : decode cX12_both 51 = .ok (.aload_n 0, 1) := by decide +kernel
theorem dX12_both_52 : decode cX12_both 52 = .ok (.iload_n 2, 1) := by decide +kernel
theorem dX12_both_53 : decode cX12_both 53 = .ok (.iconst (-1), 1) := by decide +kernel
theorem dX12_both_54 : decode cX12_both 54 = .ok (.if_icmp .ne 7, 3) := by decide +kernel
theorem dX12_both_57 : decode cX12_both 57 = .ok (.iload_n 3, 1) := by decide +kernel
theorem dX12_both_58 : decode cX12_both 58 = .ok (.goto 4, 3) := by decide +kernel
theorem dX12_both_61 : decode cX12_both 61 = .ok (.iload_n 2, 1) := by decide +kernel
theorem dX12_both_62 : decode cX12_both 62 = .ok (.iload_n 1, 1) := by decide +kernel
theorem dX12_both_63 : decode cX12_both 63 = .ok (.invokevirtual 125, 3) := by decide +kernel
theorem dX12_both_66 : decode cX12_both 66 = .ok (.return_, 1) := by decide +kernel
theorem dX12_both_67 : decode cX12_both 67 = .ok (.iload_n 1, 1) := by decide +kernel
theorem dX12_both_68 : decode cX12_both 68 = .ok (.aload_n 0, 1) := by decide +kernel
theorem dX12_both_69 : decode cX12_both 69 = .ok (.getfield 35, 3) := by decide +kernel
theorem dX12_both_72 : decode cX12_both 72 = .ok (.iload_n 2, 1) := by decide +kernel
theorem dX12_both_73 : decode cX12_both 73 = .ok (.iaload, 1) := by decide +kernel
theorem dX12_both_74 : decode cX12_both 74 = .ok (.isub, 1) := by decide +kernel
theorem dX12_both_75 : decode cX12_both 75 = .ok (.aload_n 0, 1) := by decide +kernel
theorem dX12_both_76 : decode cX12_both 76 = .ok (.getfield 35, 3) := by decide +kernel
theorem dX12_both_79 : decode cX12_both 79 = .ok (.iload_n 3, 1) := by decide +kernel
theorem dX12_both_80 : decode cX12_both 80 = .ok (.iaload, 1) := by decide +kernel
theorem dX12_both_81 : decode cX12_both 81 = .ok (.iload_n 1, 1) := by decide +kernel
theorem dX12_both_82 : decode cX12_both 82 = .ok (.isub, 1) := by decide +kernel
theorem dX12_both_83 : decode cX12_both 83 = .ok (.if_icmp .ge 14, 3) := by decide +kernel
theorem dX12_both_86 : decode cX12_both 86 = .ok (.iload_n 1, 1) := by decide +kernel
theorem dX12_both_87 : decode cX12_both 87 = .ok (.aload_n 0, 1) := by decide +kernel
theorem dX12_both_88 : decode cX12_both 88 = .ok (.getfield 35, 3) := by decide +kernel
theorem dX12_both_91 : decode cX12_both 91 = .ok (.iload_n 2, 1) := by decide +kernel
theorem dX12_both_92 : decode cX12_both 92 = .ok (.iaload, 1) := by decide +kernel
theorem dX12_both_93 : decode cX12_both 93 = .ok (.isub, 1) := by decide +kernel
theorem dX12_both_94 : decode cX12_both 94 = .ok (.goto 11, 3) := by decide +kernel
theorem dX12_both_97 : decode cX12_both 97 = .ok (.aload_n 0, 1) := by decide +kernel
theorem dX12_both_98 : decode cX12_both 98 = .ok (.getfield 35, 3) := by decide +kernel
theorem dX12_both_101 : decode cX12_both 101 = .ok (.iload_n 3, 1) := by decide +kernel
theorem dX12_both_102 : decode cX12_both 102 = .ok (.iaload, 1) := by decide +kernel
theorem dX12_both_103 : decode cX12_both 103 = .ok (.iload_n 1, 1) := by decide +kernel
theorem dX12_both_104 : decode cX12_both 104 = .ok (.isub, 1) := by decide +kernel
theorem dX12_both_105 : decode cX12_both 105 = .ok (.istore 4, 2) := by decide +kernel
theorem dX12_both_107 : decode cX12_both 107 = .ok (.aload_n 0, 1) := by decide +kernel
theorem dX12_both_108 : decode cX12_both 108 = .ok (.iload_n 2, 1) := by decide +kernel
theorem dX12_both_109 : decode cX12_both 109 = .ok (.aload_n 0, 1) := by decide +kernel
theorem dX12_both_110 : decode cX12_both 110 = .ok (.getfield 35, 3) := by decide +kernel
theorem dX12_both_113 : decode cX12_both 113 = .ok (.iload_n 2, 1) := by decide +kernel
theorem dX12_both_114 : decode cX12_both 114 = .ok (.iaload, 1) := by decide +kernel
theorem dX12_both_115 : decode cX12_both 115 = .ok (.iload 4, 2) := by decide +kernel
theorem dX12_both_117 : decode cX12_both 117 = .ok (.iadd, 1) := by decide +kernel
theorem dX12_both_118 : decode cX12_both 118 = .ok (.invokevirtual 125, 3) := by decide +kernel
theorem dX12_both_121 : decode cX12_both 121 = .ok (.aload_n 0, 1) := by decide +kernel
theorem dX12_both_122 : decode cX12_both 122 = .ok (.iload_n 3, 1) := by decide +kernel
theorem dX12_both_123 : decode cX12_both 123 = .ok (.aload_n 0, 1) := by decide +kernel
theorem dX12_both_124 : decode cX12_both 124 = .ok (.getfield 35, 3) := by decide +kernel
theorem dX12_both_127 : decode cX12_both 127 = .ok (.iload_n 3, 1) := by decide +kernel
theorem dX12_both_128 : decode cX12_both 128 = .ok (.iaload, 1) := by decide +kernel
theorem dX12_both_129 : decode cX12_both 129 = .ok (.iload 4, 2) := by decide +kernel
theorem dX12_both_131 : decode cX12_both 131 = .ok (.isub, 1) := by decide +kernel
theorem dX12_both_132 : decode cX12_both 132 = .ok (.invokevirtual 125, 3) := by decide +kernel
theorem dX12_both_135 : decode cX12_both 135 = .ok (.return_, 1) := by decide +kernel
theorem dX12_worksFirst_0 : decode cX12_worksFirst 0 = .ok (.aload_n 0, 1) := by decide +kernel
theorem dX12_worksFirst_1 : decode cX12_worksFirst 1 = .ok (.aload_n 0, 1) := by decide +kernel
theorem dX12_worksFirst_2 : decode cX12_worksFirst 2 = .ok (.invokevirtual 105, 3) := by decide +kernel
theorem dX12_worksFirst_5 : decode cX12_worksFirst 5 = .ok (.putfield 129, 3) := by decide +kernel
theorem dX12_worksFirst_8 : decode cX12_worksFirst 8 = .ok (.iconst 0, 1) := by decide +kernel
theorem dX12_worksFirst_9 : decode cX12_worksFirst 9 = .ok (.istore_n 1, 1) := by decide +kernel
theorem dX12_worksFirst_10 : decode cX12_worksFirst 10 = .ok (.iload_n 1, 1) := by decide +kernel
theorem dX12_worksFirst_11 : decode cX12_worksFirst 11 = .ok (.sipush 216, 3) := by decide +kernel
theorem dX12_worksFirst_14 : decode cX12_worksFirst 14 = .ok (.if_icmp .ge 106, 3) := by decide +kernel
theorem dX12_worksFirst_17 : decode cX12_worksFirst 17 = .ok (.aload_n 0, 1) := by decide +kernel
theorem dX12_worksFirst_18 : decode cX12_worksFirst 18 = .ok (.getfield 13, 3) := by decide +kernel
theorem dX12_worksFirst_21 : decode cX12_worksFirst 21 = .ok (.aload_n 0, 1) := by decide +kernel
theorem dX12_worksFirst_22 : decode cX12_worksFirst 22 = .ok (.getfield 20, 3) := by decide +kernel
theorem dX12_worksFirst_25 : decode cX12_worksFirst 25 = .ok (.iconst 0, 1) := by decide +kernel
theorem dX12_worksFirst_26 : decode cX12_worksFirst 26 = .ok (.iaload, 1) := by decide +kernel
theorem dX12_worksFirst_27 : decode cX12_worksFirst 27 = .ok (.iaload, 1) := by decide +kernel
theorem dX12_worksFirst_28 : decode cX12_worksFirst 28 = .ok (.istore_n 2, 1) := by decide +kernel
theorem dX12_worksFirst_29 : decode cX12_worksFirst 29 = .ok (.aload_n 0, 1) := by decide +kernel
theorem dX12_worksFirst_30 : decode cX12_worksFirst 30 = .ok (.getfield 13, 3) := by decide +kernel
theorem dX12_worksFirst_33 : decode cX12_worksFirst 33 = .ok (.aload_n 0, 1) := by decide +kernel
theorem dX12_worksFirst_34 : decode cX12_worksFirst 34 = .ok (.getfield 20, 3) := by decide +kernel
theorem dX12_worksFirst_37 : decode cX12_worksFirst 37 = .ok (.iconst 1, 1) := by decide +kernel
theorem dX12_worksFirst_38 : decode cX12_worksFirst 38 = .ok (.iaload, 1) := by decide +kernel
theorem dX12_worksFirst_39 : decode cX12_worksFirst 39 = .ok (.iaload, 1) := by decide +kernel
theorem dX12_worksFirst_40 : decode cX12_worksFirst 40 = .ok (.istore_n 3, 1) := by decide +kernel
theorem dX12_worksFirst_41 : decode cX12_worksFirst 41 = .ok (.aload_n 0, 1) := by decide +kernel
theorem dX12_worksFirst_42 : decode cX12_worksFirst 42 = .ok (.getfield 13, 3) := by decide +kernel
theorem dX12_worksFirst_45 : decode cX12_worksFirst 45 = .ok (.aload_n 0, 1) := by decide +kernel
theorem dX12_worksFirst_46 : decode cX12_worksFirst 46 = .ok (.getfield 20, 3) := by decide +kernel
theorem dX12_worksFirst_49 : decode cX12_worksFirst 49 = .ok (.iconst 2, 1) := by decide +kernel
theorem dX12_worksFirst_50 : decode cX12_worksFirst 50 = .ok (.iaload, 1) := by decide +kernel
theorem dX12_worksFirst_51 : decode cX12_worksFirst 51 = .ok (.iaload, 1) := by decide +kernel
theorem dX12_worksFirst_52 : decode cX12_worksFirst 52 = .ok (.istore 4, 2) := by decide +kernel
theorem dX12_worksFirst_54 : decode cX12_worksFirst 54 = .ok (.aload_n 0, 1) := by decide +kernel
theorem dX12_worksFirst_55 : decode cX12_worksFirst 55 = .ok (.getfield 38, 3) := by decide +kernel
theorem dX12_worksFirst_58 : decode cX12_worksFirst 58 = .ok (.iload_n 1, 1) := by decide +kernel
theorem dX12_worksFirst_59 : decode cX12_worksFirst 59 = .ok (.aload_n 0, 1) := by decide +kernel
theorem dX12_worksFirst_60 : decode cX12_worksFirst 60 = .ok (.iload_n 1, 1) := by decide +kernel
theorem dX12_worksFirst_61 : decode cX12_worksFirst 61 = .ok (.invokevirtual 99, 3) := by decide +kernel
theorem dX12_worksFirst_64 : decode cX12_worksFirst 64 = .ok (.ifCond .eq 47, 3) := by decide +kernel
theorem dX12_worksFirst_67 : decode cX12_worksFirst 67 = .ok (.aload_n 0, 1) := by decide +kernel
theorem dX12_worksFirst_68 : decode cX12_worksFirst 68 = .ok (.iload_n 2, 1) := by decide +kernel
theorem dX12_worksFirst_69 : decode cX12_worksFirst 69 = .ok (.iload_n 3, 1) := by decide +kernel
theorem dX12_worksFirst_70 : decode cX12_worksFirst 70 = .ok (.iload 4, 2) := by decide +kernel
theorem dX12_worksFirst_72 : decode cX12_worksFirst 72 = .ok (.aload_n 0, 1) := by decide +kernel
theorem dX12_worksFirst_73 : decode cX12_worksFirst 73 = .ok (.getfield 13, 3) := by decide +kernel
theorem dX12_worksFirst_76 : decode cX12_worksFirst 76 = .ok (.aload_n 0, 1) := by decide +kernel
theorem dX12_worksFirst_77 : decode cX12_worksFirst 77 = .ok (.iload_n 1, 1) := by decide +kernel
theorem dX12_worksFirst_78 : decode cX12_worksFirst 78 = .ok (.iconst 0, 1) := by decide +kernel
theorem dX12_worksFirst_79 : decode cX12_worksFirst 79 = .ok (.invokevirtual 87, 3) := by decide +kernel
theorem dX12_worksFirst_82 : decode cX12_worksFirst 82 = .ok (.iaload, 1) := by decide +kernel
theorem dX12_worksFirst_83 : decode cX12_worksFirst 83 = .ok (.aload_n 0, 1) := by decide +kernel
theorem dX12_worksFirst_84 : decode cX12_worksFirst 84 = .ok (.getfield 13, 3) := by decide +kernel
theorem dX12_worksFirst_87 : decode cX12_worksFirst 87 = .ok (.aload_n 0, 1) := by decide +kernel
theorem dX12_worksFirst_88 : decode cX12_worksFirst 88 = .ok (.iload_n 1, 1) := by decide +kernel
theorem dX12_worksFirst_89 : decode cX12_worksFirst 89 = .ok (.iconst 1, 1) := by decide +kernel
theorem dX12_worksFirst_90 : decode cX12_worksFirst 90 = .ok (.invokevirtual 87, 3) := by decide +kernel
theorem dX12_worksFirst_93 : decode cX12_worksFirst 93 = .ok (.iaload, 1) := by decide +kernel
theorem dX12_worksFirst_94 : decode cX12_worksFirst 94 = .ok (.aload_n 0, 1) := by decide +kernel
theorem dX12_worksFirst_95 : decode cX12_worksFirst 95 = .ok (.getfield 13, 3) := by decide +kernel
theorem dX12_worksFirst_98 : decode cX12_worksFirst 98 = .ok (.aload_n 0, 1) := by decide +kernel
theorem dX12_worksFirst_99 : decode cX12_worksFirst 99 = .ok (.iload_n 1, 1) := by decide +kernel
theorem dX12_worksFirst_100 : decode cX12_worksFirst 100 = .ok (.iconst 2, 1) := by decide +kernel
theorem dX12_worksFirst_101 : decode cX12_worksFirst 101 = .ok (.invokevirtual 87, 3) := by decide +kernel
theorem dX12_worksFirst_104 : decode cX12_worksFirst 104 = .ok (.iaload, 1) := by decide +kernel
theorem dX12_worksFirst_105 : decode cX12_worksFirst 105 = .ok (.invokevirtual 132, 3) := by decide +kernel
theorem dX12_worksFirst_108 : decode cX12_worksFirst 108 = .ok (.goto 5, 3) := by decide +kernel
theorem dX12_worksFirst_111 : decode cX12_worksFirst 111 = .ok (.ldc 98, 2) := by decide +kernel
theorem dX12_worksFirst_113 : decode cX12_worksFirst 113 = .ok (.iastore, 1) := by decide +kernel
theorem dX12_worksFirst_114 : decode cX12_worksFirst 114 = .ok (.iinc 1 1, 3) := by decide +kernel
theorem dX12_worksFirst_117 : decode cX12_worksFirst 117 = .ok (.goto (-107), 3) := by decide +kernel
theorem dX12_worksFirst_120 : decode cX12_worksFirst 120 = .ok (.return_, 1) := by decide +kernel
theorem dX12_worksOn_0 : decode cX12_worksOn 0 = .ok (.iconst 0, 1) := by decide +kernel
theorem dX12_worksOn_1 : decode cX12_worksOn 1 = .ok (.istore_n 2, 1) := by decide +kernel
theorem dX12_worksOn_2 : decode cX12_worksOn 2 = .ok (.iload_n 2, 1) := by decide +kernel
theorem dX12_worksOn_3 : decode cX12_worksOn 3 = .ok (.sipush 216, 3) := by decide +kernel
theorem dX12_worksOn_6 : decode cX12_worksOn 6 = .ok (.if_icmp .ge 82, 3) := by decide +kernel
theorem dX12_worksOn_9 : decode cX12_worksOn 9 = .ok (.ldc 98, 2) := by decide +kernel
theorem dX12_worksOn_11 : decode cX12_worksOn 11 = .ok (.istore_n 3, 1) := by decide +kernel
theorem dX12_worksOn_12 : decode cX12_worksOn 12 = .ok (.iconst 0, 1) := by decide +kernel
theorem dX12_worksOn_13 : decode cX12_worksOn 13 = .ok (.istore 4, 2) := by decide +kernel
theorem dX12_worksOn_15 : decode cX12_worksOn 15 = .ok (.iload 4, 2) := by decide +kernel
theorem dX12_worksOn_17 : decode cX12_worksOn 17 = .ok (.aload_n 0, 1) := by decide +kernel
theorem dX12_worksOn_18 : decode cX12_worksOn 18 = .ok (.getfield 17, 3) := by decide +kernel
theorem dX12_worksOn_21 : decode cX12_worksOn 21 = .ok (.if_icmp .ge 54, 3) := by decide +kernel
theorem dX12_worksOn_24 : decode cX12_worksOn 24 = .ok (.aload_n 0, 1) := by decide +kernel
theorem dX12_worksOn_25 : decode cX12_worksOn 25 = .ok (.iload_n 2, 1) := by decide +kernel
theorem dX12_worksOn_26 : decode cX12_worksOn 26 = .ok (.invokevirtual 99, 3) := by decide +kernel
theorem dX12_worksOn_29 : decode cX12_worksOn 29 = .ok (.ifCond .eq 46, 3) := by decide +kernel
theorem dX12_worksOn_32 : decode cX12_worksOn 32 = .ok (.aload_n 0, 1) := by decide +kernel
theorem dX12_worksOn_33 : decode cX12_worksOn 33 = .ok (.getfield 38, 3) := by decide +kernel
theorem dX12_worksOn_36 : decode cX12_worksOn 36 = .ok (.aload_n 0, 1) := by decide +kernel
theorem dX12_worksOn_37 : decode cX12_worksOn 37 = .ok (.iload_n 2, 1) := by decide +kernel
theorem dX12_worksOn_38 : decode cX12_worksOn 38 = .ok (.iload 4, 2) := by decide +kernel
theorem dX12_worksOn_40 : decode cX12_worksOn 40 = .ok (.iload_n 1, 1) := by decide +kernel
theorem dX12_worksOn_41 : decode cX12_worksOn 41 = .ok (.invokevirtual 91, 3) := by decide +kernel
theorem dX12_worksOn_44 : decode cX12_worksOn 44 = .ok (.iaload, 1) := by decide +kernel
theorem dX12_worksOn_45 : decode cX12_worksOn 45 = .ok (.aload_n 0, 1) := by decide +kernel
theorem dX12_worksOn_46 : decode cX12_worksOn 46 = .ok (.iload_n 2, 1) := by decide +kernel
theorem dX12_worksOn_47 : decode cX12_worksOn 47 = .ok (.iload 4, 2) := by decide +kernel
theorem dX12_worksOn_49 : decode cX12_worksOn 49 = .ok (.iload_n 1, 1) := by decide +kernel
theorem dX12_worksOn_50 : decode cX12_worksOn 50 = .ok (.invokevirtual 102, 3) := by decide +kernel
theorem dX12_worksOn_53 : decode cX12_worksOn 53 = .ok (.iadd, 1) := by decide +kernel
theorem dX12_worksOn_54 : decode cX12_worksOn 54 = .ok (.istore 5, 2) := by decide +kernel
theorem dX12_worksOn_56 : decode cX12_worksOn 56 = .ok (.iload 5, 2) := by decide +kernel
theorem dX12_worksOn_58 : decode cX12_worksOn 58 = .ok (.iload_n 3, 1) := by decide +kernel
theorem dX12_worksOn_59 : decode cX12_worksOn 59 = .ok (.if_icmp .ge 8, 3) := by decide +kernel
theorem dX12_worksOn_62 : decode cX12_worksOn 62 = .ok (.iload 5, 2) := by decide +kernel
theorem dX12_worksOn_64 : decode cX12_worksOn 64 = .ok (.goto 4, 3) := by decide +kernel
theorem dX12_worksOn_67 : decode cX12_worksOn 67 = .ok (.iload_n 3, 1) := by decide +kernel
theorem dX12_worksOn_68 : decode cX12_worksOn 68 = .ok (.istore_n 3, 1) := by decide +kernel
theorem dX12_worksOn_69 : decode cX12_worksOn 69 = .ok (.iinc 4 1, 3) := by decide +kernel
theorem dX12_worksOn_72 : decode cX12_worksOn 72 = .ok (.goto (-57), 3) := by decide +kernel
theorem dX12_worksOn_75 : decode cX12_worksOn 75 = .ok (.aload_n 0, 1) := by decide +kernel
theorem dX12_worksOn_76 : decode cX12_worksOn 76 = .ok (.getfield 41, 3) := by decide +kernel
theorem dX12_worksOn_79 : decode cX12_worksOn 79 = .ok (.iload_n 2, 1) := by decide +kernel
theorem dX12_worksOn_80 : decode cX12_worksOn 80 = .ok (.iload_n 3, 1) := by decide +kernel
theorem dX12_worksOn_81 : decode cX12_worksOn 81 = .ok (.iastore, 1) := by decide +kernel
theorem dX12_worksOn_82 : decode cX12_worksOn 82 = .ok (.iinc 2 1, 3) := by decide +kernel
theorem dX12_worksOn_85 : decode cX12_worksOn 85 = .ok (.goto (-83), 3) := by decide +kernel
theorem dX12_worksOn_88 : decode cX12_worksOn 88 = .ok (.iconst 0, 1) := by decide +kernel
theorem dX12_worksOn_89 : decode cX12_worksOn 89 = .ok (.istore_n 2, 1) := by decide +kernel
theorem dX12_worksOn_90 : decode cX12_worksOn 90 = .ok (.iload_n 2, 1) := by decide +kernel
theorem dX12_worksOn_91 : decode cX12_worksOn 91 = .ok (.sipush 216, 3) := by decide +kernel
theorem dX12_worksOn_94 : decode cX12_worksOn 94 = .ok (.if_icmp .ge 21, 3) := by decide +kernel
theorem dX12_worksOn_97 : decode cX12_worksOn 97 = .ok (.aload_n 0, 1) := by decide +kernel
theorem dX12_worksOn_98 : decode cX12_worksOn 98 = .ok (.getfield 38, 3) := by decide +kernel
theorem dX12_worksOn_101 : decode cX12_worksOn 101 = .ok (.iload_n 2, 1) := by decide +kernel
theorem dX12_worksOn_102 : decode cX12_worksOn 102 = .ok (.aload_n 0, 1) := by decide +kernel
theorem dX12_worksOn_103 : decode cX12_worksOn 103 = .ok (.getfield 41, 3) := by decide +kernel
theorem dX12_worksOn_106 : decode cX12_worksOn 106 = .ok (.iload_n 2, 1) := by decide +kernel
theorem dX12_worksOn_107 : decode cX12_worksOn 107 = .ok (.iaload, 1) := by decide +kernel
theorem dX12_worksOn_108 : decode cX12_worksOn 108 = .ok (.iastore, 1) := by decide +kernel
theorem dX12_worksOn_109 : decode cX12_worksOn 109 = .ok (.iinc 2 1, 3) := by decide +kernel
theorem dX12_worksOn_112 : decode cX12_worksOn 112 = .ok (.goto (-22), 3) := by decide +kernel
theorem dX12_worksOn_115 : decode cX12_worksOn 115 = .ok (.return_, 1) := by decide +kernel
theorem dX12_goesByWork_0 : decode cX12_goesByWork 0 = .ok (.aload_n 0, 1) := by decide +kernel
theorem dX12_goesByWork_1 : decode cX12_goesByWork 1 = .ok (.iload_n 1, 1) := by decide +kernel
theorem dX12_goesByWork_2 : decode cX12_goesByWork 2 = .ok (.invokevirtual 136, 3) := by decide +kernel
theorem dX12_goesByWork_5 : decode cX12_goesByWork 5 = .ok (.iconst 0, 1) := by decide +kernel
theorem dX12_goesByWork_6 : decode cX12_goesByWork 6 = .ok (.istore_n 2, 1) := by decide +kernel
theorem dX12_goesByWork_7 : decode cX12_goesByWork 7 = .ok (.iconst 1, 1) := by decide +kernel
theorem dX12_goesByWork_8 : decode cX12_goesByWork 8 = .ok (.istore_n 3, 1) := by decide +kernel
theorem dX12_goesByWork_9 : decode cX12_goesByWork 9 = .ok (.iload_n 3, 1) := by decide +kernel
theorem dX12_goesByWork_10 : decode cX12_goesByWork 10 = .ok (.aload_n 0, 1) := by decide +kernel
theorem dX12_goesByWork_11 : decode cX12_goesByWork 11 = .ok (.getfield 17, 3) := by decide +kernel
theorem dX12_goesByWork_14 : decode cX12_goesByWork 14 = .ok (.if_icmp .ge 74, 3) := by decide +kernel
theorem dX12_goesByWork_17 : decode cX12_goesByWork 17 = .ok (.aload_n 0, 1) := by decide +kernel
theorem dX12_goesByWork_18 : decode cX12_goesByWork 18 = .ok (.getfield 38, 3) := by decide +kernel
theorem dX12_goesByWork_21 : decode cX12_goesByWork 21 = .ok (.aload_n 0, 1) := by decide +kernel
theorem dX12_goesByWork_22 : decode cX12_goesByWork 22 = .ok (.aload_n 0, 1) := by decide +kernel
theorem dX12_goesByWork_23 : decode cX12_goesByWork 23 = .ok (.getfield 129, 3) := by decide +kernel
theorem dX12_goesByWork_26 : decode cX12_goesByWork 26 = .ok (.iload_n 3, 1) := by decide +kernel
theorem dX12_goesByWork_27 : decode cX12_goesByWork 27 = .ok (.iload_n 1, 1) := by decide +kernel
theorem dX12_goesByWork_28 : decode cX12_goesByWork 28 = .ok (.invokevirtual 91, 3) := by decide +kernel
theorem dX12_goesByWork_31 : decode cX12_goesByWork 31 = .ok (.iaload, 1) := by decide +kernel
theorem dX12_goesByWork_32 : decode cX12_goesByWork 32 = .ok (.aload_n 0, 1) := by decide +kernel
theorem dX12_goesByWork_33 : decode cX12_goesByWork 33 = .ok (.aload_n 0, 1) := by decide +kernel
theorem dX12_goesByWork_34 : decode cX12_goesByWork 34 = .ok (.getfield 129, 3) := by decide +kernel
theorem dX12_goesByWork_37 : decode cX12_goesByWork 37 = .ok (.iload_n 3, 1) := by decide +kernel
theorem dX12_goesByWork_38 : decode cX12_goesByWork 38 = .ok (.iload_n 1, 1) := by decide +kernel
theorem dX12_goesByWork_39 : decode cX12_goesByWork 39 = .ok (.invokevirtual 102, 3) := by decide +kernel
theorem dX12_goesByWork_42 : decode cX12_goesByWork 42 = .ok (.iadd, 1) := by decide +kernel
theorem dX12_goesByWork_43 : decode cX12_goesByWork 43 = .ok (.istore 4, 2) := by decide +kernel
theorem dX12_goesByWork_45 : decode cX12_goesByWork 45 = .ok (.iload 4, 2) := by decide +kernel
theorem dX12_goesByWork_47 : decode cX12_goesByWork 47 = .ok (.aload_n 0, 1) := by decide +kernel
theorem dX12_goesByWork_48 : decode cX12_goesByWork 48 = .ok (.getfield 38, 3) := by decide +kernel
theorem dX12_goesByWork_51 : decode cX12_goesByWork 51 = .ok (.aload_n 0, 1) := by decide +kernel
theorem dX12_goesByWork_52 : decode cX12_goesByWork 52 = .ok (.aload_n 0, 1) := by decide +kernel
theorem dX12_goesByWork_53 : decode cX12_goesByWork 53 = .ok (.getfield 129, 3) := by decide +kernel
theorem dX12_goesByWork_56 : decode cX12_goesByWork 56 = .ok (.iload_n 2, 1) := by decide +kernel
theorem dX12_goesByWork_57 : decode cX12_goesByWork 57 = .ok (.iload_n 1, 1) := by decide +kernel
theorem dX12_goesByWork_58 : decode cX12_goesByWork 58 = .ok (.invokevirtual 91, 3) := by decide +kernel
theorem dX12_goesByWork_61 : decode cX12_goesByWork 61 = .ok (.iaload, 1) := by decide +kernel
theorem dX12_goesByWork_62 : decode cX12_goesByWork 62 = .ok (.aload_n 0, 1) := by decide +kernel
theorem dX12_goesByWork_63 : decode cX12_goesByWork 63 = .ok (.aload_n 0, 1) := by decide +kernel
theorem dX12_goesByWork_64 : decode cX12_goesByWork 64 = .ok (.getfield 129, 3) := by decide +kernel
theorem dX12_goesByWork_67 : decode cX12_goesByWork 67 = .ok (.iload_n 2, 1) := by decide +kernel
theorem dX12_goesByWork_68 : decode cX12_goesByWork 68 = .ok (.iload_n 1, 1) := by decide +kernel
theorem dX12_goesByWork_69 : decode cX12_goesByWork 69 = .ok (.invokevirtual 102, 3) := by decide +kernel
theorem dX12_goesByWork_72 : decode cX12_goesByWork 72 = .ok (.iadd, 1) := by decide +kernel
theorem dX12_goesByWork_73 : decode cX12_goesByWork 73 = .ok (.if_icmp .ge 7, 3) := by decide +kernel
theorem dX12_goesByWork_76 : decode cX12_goesByWork 76 = .ok (.iload_n 3, 1) := by decide +kernel
theorem dX12_goesByWork_77 : decode cX12_goesByWork 77 = .ok (.goto 4, 3) := by decide +kernel
theorem dX12_goesByWork_80 : decode cX12_goesByWork 80 = .ok (.iload_n 2, 1) := by decide +kernel
theorem dX12_goesByWork_81 : decode cX12_goesByWork 81 = .ok (.istore_n 2, 1) := by decide +kernel
theorem dX12_goesByWork_82 : decode cX12_goesByWork 82 = .ok (.iinc 3 1, 3) := by decide +kernel
theorem dX12_goesByWork_85 : decode cX12_goesByWork 85 = .ok (.goto (-76), 3) := by decide +kernel
theorem dX12_goesByWork_88 : decode cX12_goesByWork 88 = .ok (.aload_n 0, 1) := by decide +kernel
theorem dX12_goesByWork_89 : decode cX12_goesByWork 89 = .ok (.iload_n 2, 1) := by decide +kernel
theorem dX12_goesByWork_90 : decode cX12_goesByWork 90 = .ok (.aload_n 0, 1) := by decide +kernel
theorem dX12_goesByWork_91 : decode cX12_goesByWork 91 = .ok (.getfield 13, 3) := by decide +kernel
theorem dX12_goesByWork_94 : decode cX12_goesByWork 94 = .ok (.iload_n 1, 1) := by decide +kernel
theorem dX12_goesByWork_95 : decode cX12_goesByWork 95 = .ok (.iaload, 1) := by decide +kernel
theorem dX12_goesByWork_96 : decode cX12_goesByWork 96 = .ok (.invokevirtual 125, 3) := by decide +kernel
theorem dX12_goesByWork_99 : decode cX12_goesByWork 99 = .ok (.aload_n 0, 1) := by decide +kernel
theorem dX12_goesByWork_100 : decode cX12_goesByWork 100 = .ok (.aload_n 0, 1) := by decide +kernel
theorem dX12_goesByWork_101 : decode cX12_goesByWork 101 = .ok (.aload_n 0, 1) := by decide +kernel
theorem dX12_goesByWork_102 : decode cX12_goesByWork 102 = .ok (.getfield 129, 3) := by decide +kernel
theorem dX12_goesByWork_105 : decode cX12_goesByWork 105 = .ok (.iload_n 2, 1) := by decide +kernel
theorem dX12_goesByWork_106 : decode cX12_goesByWork 106 = .ok (.iload_n 1, 1) := by decide +kernel
theorem dX12_goesByWork_107 : decode cX12_goesByWork 107 = .ok (.invokevirtual 91, 3) := by decide +kernel
theorem dX12_goesByWork_110 : decode cX12_goesByWork 110 = .ok (.putfield 129, 3) := by decide +kernel
theorem dX12_goesByWork_113 : decode cX12_goesByWork 113 = .ok (.return_, 1) := by decide +kernel
theorem dX12_goesOn_0 : decode cX12_goesOn 0 = .ok (.aload_n 0, 1) := by decide +kernel
theorem dX12_goesOn_1 : decode cX12_goesOn 1 = .ok (.getfield 13, 3) := by decide +kernel
theorem dX12_goesOn_4 : decode cX12_goesOn 4 = .ok (.aload_n 0, 1) := by decide +kernel
theorem dX12_goesOn_5 : decode cX12_goesOn 5 = .ok (.getfield 26, 3) := by decide +kernel
theorem dX12_goesOn_8 : decode cX12_goesOn 8 = .ok (.iload_n 2, 1) := by decide +kernel
theorem dX12_goesOn_9 : decode cX12_goesOn 9 = .ok (.iaload, 1) := by decide +kernel
theorem dX12_goesOn_10 : decode cX12_goesOn 10 = .ok (.iaload, 1) := by decide +kernel
theorem dX12_goesOn_11 : decode cX12_goesOn 11 = .ok (.istore_n 3, 1) := by decide +kernel
theorem dX12_goesOn_12 : decode cX12_goesOn 12 = .ok (.iload_n 1, 1) := by decide +kernel
theorem dX12_goesOn_13 : decode cX12_goesOn 13 = .ok (.ifCond .ne 16, 3) := by decide +kernel
theorem dX12_goesOn_16 : decode cX12_goesOn 16 = .ok (.aload_n 0, 1) := by decide +kernel
theorem dX12_goesOn_17 : decode cX12_goesOn 17 = .ok (.aload_n 0, 1) := by decide +kernel
theorem dX12_goesOn_18 : decode cX12_goesOn 18 = .ok (.iload_n 3, 1) := by decide +kernel
theorem dX12_goesOn_19 : decode cX12_goesOn 19 = .ok (.invokevirtual 140, 3) := by decide +kernel
theorem dX12_goesOn_22 : decode cX12_goesOn 22 = .ok (.iload_n 3, 1) := by decide +kernel
theorem dX12_goesOn_23 : decode cX12_goesOn 23 = .ok (.invokevirtual 125, 3) := by decide +kernel
theorem dX12_goesOn_26 : decode cX12_goesOn 26 = .ok (.goto 62, 3) := by decide +kernel
theorem dX12_goesOn_29 : decode cX12_goesOn 29 = .ok (.iload_n 1, 1) := by decide +kernel
theorem dX12_goesOn_30 : decode cX12_goesOn 30 = .ok (.iconst 1, 1) := by decide +kernel
theorem dX12_goesOn_31 : decode cX12_goesOn 31 = .ok (.if_icmp .ne 11, 3) := by decide +kernel
theorem dX12_goesOn_34 : decode cX12_goesOn 34 = .ok (.aload_n 0, 1) := by decide +kernel
theorem dX12_goesOn_35 : decode cX12_goesOn 35 = .ok (.iload_n 3, 1) := by decide +kernel
theorem dX12_goesOn_36 : decode cX12_goesOn 36 = .ok (.invokevirtual 144, 3) := by decide +kernel
theorem dX12_goesOn_39 : decode cX12_goesOn 39 = .ok (.goto 49, 3) := by decide +kernel
theorem dX12_goesOn_42 : decode cX12_goesOn 42 = .ok (.iload_n 1, 1) := by decide +kernel
theorem dX12_goesOn_43 : decode cX12_goesOn 43 = .ok (.iconst 2, 1) := by decide +kernel
theorem dX12_goesOn_44 : decode cX12_goesOn 44 = .ok (.if_icmp .ne 16, 3) := by decide +kernel
theorem dX12_goesOn_47 : decode cX12_goesOn 47 = .ok (.aload_n 0, 1) := by decide +kernel
theorem dX12_goesOn_48 : decode cX12_goesOn 48 = .ok (.aload_n 0, 1) := by decide +kernel
theorem dX12_goesOn_49 : decode cX12_goesOn 49 = .ok (.getfield 26, 3) := by decide +kernel
theorem dX12_goesOn_52 : decode cX12_goesOn 52 = .ok (.iload_n 2, 1) := by decide +kernel
theorem dX12_goesOn_53 : decode cX12_goesOn 53 = .ok (.iaload, 1) := by decide +kernel
theorem dX12_goesOn_54 : decode cX12_goesOn 54 = .ok (.invokevirtual 147, 3) := by decide +kernel
theorem dX12_goesOn_57 : decode cX12_goesOn 57 = .ok (.goto 31, 3) := by decide +kernel
theorem dX12_goesOn_60 : decode cX12_goesOn 60 = .ok (.aload_n 0, 1) := by decide +kernel
theorem dX12_goesOn_61 : decode cX12_goesOn 61 = .ok (.iload_n 2, 1) := by decide +kernel
theorem dX12_goesOn_62 : decode cX12_goesOn 62 = .ok (.invokevirtual 150, 3) := by decide +kernel
theorem dX12_goesOn_65 : decode cX12_goesOn 65 = .ok (.istore 4, 2) := by decide +kernel
theorem dX12_goesOn_67 : decode cX12_goesOn 67 = .ok (.aload_n 0, 1) := by decide +kernel
theorem dX12_goesOn_68 : decode cX12_goesOn 68 = .ok (.iload 4, 2) := by decide +kernel
theorem dX12_goesOn_70 : decode cX12_goesOn 70 = .ok (.iconst (-1), 1) := by decide +kernel
theorem dX12_goesOn_71 : decode cX12_goesOn 71 = .ok (.if_icmp .ne 11, 3) := by decide +kernel
theorem dX12_goesOn_74 : decode cX12_goesOn 74 = .ok (.aload_n 0, 1) := by decide +kernel
theorem dX12_goesOn_75 : decode cX12_goesOn 75 = .ok (.iload_n 3, 1) := by decide +kernel
theorem dX12_goesOn_76 : decode cX12_goesOn 76 = .ok (.invokevirtual 140, 3) := by decide +kernel
theorem dX12_goesOn_79 : decode cX12_goesOn 79 = .ok (.goto 5, 3) := by decide +kernel
theorem dX12_goesOn_82 : decode cX12_goesOn 82 = .ok (.iload 4, 2) := by decide +kernel
theorem dX12_goesOn_84 : decode cX12_goesOn 84 = .ok (.iload_n 3, 1) := by decide +kernel
theorem dX12_goesOn_85 : decode cX12_goesOn 85 = .ok (.invokevirtual 125, 3) := by decide +kernel
theorem dX12_goesOn_88 : decode cX12_goesOn 88 = .ok (.return_, 1) := by decide +kernel
theorem dX12_first_0 : decode cX12_first 0 = .ok (.iload_n 1, 1) := by decide +kernel
theorem dX12_first_1 : decode cX12_first 1 = .ok (.aload_n 0, 1) := by decide +kernel
theorem dX12_first_2 : decode cX12_first 2 = .ok (.getfield 77, 3) := by decide +kernel
theorem dX12_first_5 : decode cX12_first 5 = .ok (.if_icmp .ge 7, 3) := by decide +kernel
theorem dX12_first_8 : decode cX12_first 8 = .ok (.iload_n 1, 1) := by decide +kernel
theorem dX12_first_9 : decode cX12_first 9 = .ok (.goto 7, 3) := by decide +kernel
theorem dX12_first_12 : decode cX12_first 12 = .ok (.aload_n 0, 1) := by decide +kernel
theorem dX12_first_13 : decode cX12_first 13 = .ok (.getfield 77, 3) := by decide +kernel
theorem dX12_first_16 : decode cX12_first 16 = .ok (.ireturn, 1) := by decide +kernel
theorem dX12_runs_0 : decode cX12_runs 0 = .ok (.aload_n 0, 1) := by decide +kernel
theorem dX12_runs_1 : decode cX12_runs 1 = .ok (.invokevirtual 153, 3) := by decide +kernel
theorem dX12_runs_4 : decode cX12_runs 4 = .ok (.iload_n 1, 1) := by decide +kernel
theorem dX12_runs_5 : decode cX12_runs 5 = .ok (.iconst 2, 1) := by decide +kernel
theorem dX12_runs_6 : decode cX12_runs 6 = .ok (.if_icmp .ne 7, 3) := by decide +kernel
theorem dX12_runs_9 : decode cX12_runs 9 = .ok (.aload_n 0, 1) := by decide +kernel
theorem dX12_runs_10 : decode cX12_runs 10 = .ok (.invokevirtual 155, 3) := by decide +kernel
theorem dX12_runs_13 : decode cX12_runs 13 = .ok (.iconst 0, 1) := by decide +kernel
theorem dX12_runs_14 : decode cX12_runs 14 = .ok (.istore_n 3, 1) := by decide +kernel
theorem dX12_runs_15 : decode cX12_runs 15 = .ok (.iload_n 3, 1) := by decide +kernel
theorem dX12_runs_16 : decode cX12_runs 16 = .ok (.aload_n 0, 1) := by decide +kernel
theorem dX12_runs_17 : decode cX12_runs 17 = .ok (.iload_n 2, 1) := by decide +kernel
theorem dX12_runs_18 : decode cX12_runs 18 = .ok (.invokevirtual 158, 3) := by decide +kernel
theorem dX12_runs_21 : decode cX12_runs 21 = .ok (.if_icmp .ge 15, 3) := by decide +kernel
theorem dX12_runs_24 : decode cX12_runs 24 = .ok (.aload_n 0, 1) := by decide +kernel
theorem dX12_runs_25 : decode cX12_runs 25 = .ok (.iload_n 1, 1) := by decide +kernel
theorem dX12_runs_26 : decode cX12_runs 26 = .ok (.iload_n 3, 1) := by decide +kernel
theorem dX12_runs_27 : decode cX12_runs 27 = .ok (.invokevirtual 161, 3) := by decide +kernel
theorem dX12_runs_30 : decode cX12_runs 30 = .ok (.iinc 3 1, 3) := by decide +kernel
theorem dX12_runs_33 : decode cX12_runs 33 = .ok (.goto (-18), 3) := by decide +kernel
theorem dX12_runs_36 : decode cX12_runs 36 = .ok (.return_, 1) := by decide +kernel
theorem dX12_keep_0 : decode cX12_keep 0 = .ok (.iconst 0, 1) := by decide +kernel
theorem dX12_keep_1 : decode cX12_keep 1 = .ok (.istore_n 2, 1) := by decide +kernel
theorem dX12_keep_2 : decode cX12_keep 2 = .ok (.iload_n 2, 1) := by decide +kernel
theorem dX12_keep_3 : decode cX12_keep 3 = .ok (.iconst 3, 1) := by decide +kernel
theorem dX12_keep_4 : decode cX12_keep 4 = .ok (.if_icmp .ge 15, 3) := by decide +kernel
theorem dX12_keep_7 : decode cX12_keep 7 = .ok (.aload_n 1, 1) := by decide +kernel
theorem dX12_keep_8 : decode cX12_keep 8 = .ok (.iload_n 2, 1) := by decide +kernel
theorem dX12_keep_9 : decode cX12_keep 9 = .ok (.aload_n 0, 1) := by decide +kernel
theorem dX12_keep_10 : decode cX12_keep 10 = .ok (.iload_n 2, 1) := by decide +kernel
theorem dX12_keep_11 : decode cX12_keep 11 = .ok (.iaload, 1) := by decide +kernel
theorem dX12_keep_12 : decode cX12_keep 12 = .ok (.iastore, 1) := by decide +kernel
theorem dX12_keep_13 : decode cX12_keep 13 = .ok (.iinc 2 1, 3) := by decide +kernel
theorem dX12_keep_16 : decode cX12_keep 16 = .ok (.goto (-14), 3) := by decide +kernel
theorem dX12_keep_19 : decode cX12_keep 19 = .ok (.return_, 1) := by decide +kernel
theorem dX12_runsGuarded_0 : decode cX12_runsGuarded 0 = .ok (.aload_n 0, 1) := by decide +kernel
theorem dX12_runsGuarded_1 : decode cX12_runsGuarded 1 = .ok (.iconst 3, 1) := by decide +kernel
theorem dX12_runsGuarded_2 : decode cX12_runsGuarded 2 = .ok (.putfield 164, 3) := by decide +kernel
theorem dX12_runsGuarded_5 : decode cX12_runsGuarded 5 = .ok (.aload_n 0, 1) := by decide +kernel
theorem dX12_runsGuarded_6 : decode cX12_runsGuarded 6 = .ok (.iconst 0, 1) := by decide +kernel
theorem dX12_runsGuarded_7 : decode cX12_runsGuarded 7 = .ok (.putfield 167, 3) := by decide +kernel
theorem dX12_runsGuarded_10 : decode cX12_runsGuarded 10 = .ok (.aload_n 0, 1) := by decide +kernel
theorem dX12_runsGuarded_11 : decode cX12_runsGuarded 11 = .ok (.invokevirtual 153, 3) := by decide +kernel
theorem dX12_runsGuarded_14 : decode cX12_runsGuarded 14 = .ok (.aload_n 0, 1) := by decide +kernel
theorem dX12_runsGuarded_15 : decode cX12_runsGuarded 15 = .ok (.getfield 35, 3) := by decide +kernel
theorem dX12_runsGuarded_18 : decode cX12_runsGuarded 18 = .ok (.aload_n 0, 1) := by decide +kernel
theorem dX12_runsGuarded_19 : decode cX12_runsGuarded 19 = .ok (.getfield 44, 3) := by decide +kernel
theorem dX12_runsGuarded_22 : decode cX12_runsGuarded 22 = .ok (.invokestatic 170, 3) := by decide +kernel
theorem dX12_runsGuarded_25 : decode cX12_runsGuarded 25 = .ok (.aload_n 0, 1) := by decide +kernel
theorem dX12_runsGuarded_26 : decode cX12_runsGuarded 26 = .ok (.getfield 35, 3) := by decide +kernel
theorem dX12_runsGuarded_29 : decode cX12_runsGuarded 29 = .ok (.aload_n 0, 1) := by decide +kernel
theorem dX12_runsGuarded_30 : decode cX12_runsGuarded 30 = .ok (.getfield 47, 3) := by decide +kernel
theorem dX12_runsGuarded_33 : decode cX12_runsGuarded 33 = .ok (.invokestatic 170, 3) := by decide +kernel
theorem dX12_runsGuarded_36 : decode cX12_runsGuarded 36 = .ok (.aload_n 0, 1) := by decide +kernel
theorem dX12_runsGuarded_37 : decode cX12_runsGuarded 37 = .ok (.getfield 35, 3) := by decide +kernel
theorem dX12_runsGuarded_40 : decode cX12_runsGuarded 40 = .ok (.aload_n 0, 1) := by decide +kernel
theorem dX12_runsGuarded_41 : decode cX12_runsGuarded 41 = .ok (.getfield 50, 3) := by decide +kernel
theorem dX12_runsGuarded_44 : decode cX12_runsGuarded 44 = .ok (.invokestatic 170, 3) := by decide +kernel
theorem dX12_runsGuarded_47 : decode cX12_runsGuarded 47 = .ok (.iconst 0, 1) := by decide +kernel
theorem dX12_runsGuarded_48 : decode cX12_runsGuarded 48 = .ok (.istore_n 2, 1) := by decide +kernel
theorem dX12_runsGuarded_49 : decode cX12_runsGuarded 49 = .ok (.iconst 0, 1) := by decide +kernel
theorem dX12_runsGuarded_50 : decode cX12_runsGuarded 50 = .ok (.istore_n 3, 1) := by decide +kernel
theorem dX12_runsGuarded_51 : decode cX12_runsGuarded 51 = .ok (.iconst 0, 1) := by decide +kernel
theorem dX12_runsGuarded_52 : decode cX12_runsGuarded 52 = .ok (.istore 4, 2) := by decide +kernel
theorem dX12_runsGuarded_54 : decode cX12_runsGuarded 54 = .ok (.iload 4, 2) := by decide +kernel
theorem dX12_runsGuarded_56 : decode cX12_runsGuarded 56 = .ok (.aload_n 0, 1) := by decide +kernel
theorem dX12_runsGuarded_57 : decode cX12_runsGuarded 57 = .ok (.iload_n 1, 1) := by decide +kernel
theorem dX12_runsGuarded_58 : decode cX12_runsGuarded 58 = .ok (.invokevirtual 158, 3) := by decide +kernel
theorem dX12_runsGuarded_61 : decode cX12_runsGuarded 61 = .ok (.if_icmp .ge 226, 3) := by decide +kernel
theorem dX12_runsGuarded_64 : decode cX12_runsGuarded 64 = .ok (.aload_n 0, 1) := by decide +kernel
theorem dX12_runsGuarded_65 : decode cX12_runsGuarded 65 = .ok (.getfield 44, 3) := by decide +kernel
theorem dX12_runsGuarded_68 : decode cX12_runsGuarded 68 = .ok (.aload_n 0, 1) := by decide +kernel
theorem dX12_runsGuarded_69 : decode cX12_runsGuarded 69 = .ok (.getfield 35, 3) := by decide +kernel
theorem dX12_runsGuarded_72 : decode cX12_runsGuarded 72 = .ok (.invokestatic 170, 3) := by decide +kernel
theorem dX12_runsGuarded_75 : decode cX12_runsGuarded 75 = .ok (.aload_n 0, 1) := by decide +kernel
theorem dX12_runsGuarded_76 : decode cX12_runsGuarded 76 = .ok (.iconst 0, 1) := by decide +kernel
theorem dX12_runsGuarded_77 : decode cX12_runsGuarded 77 = .ok (.putfield 115, 3) := by decide +kernel
theorem dX12_runsGuarded_80 : decode cX12_runsGuarded 80 = .ok (.aload_n 0, 1) := by decide +kernel
theorem dX12_runsGuarded_81 : decode cX12_runsGuarded 81 = .ok (.iconst 1, 1) := by decide +kernel
theorem dX12_runsGuarded_82 : decode cX12_runsGuarded 82 = .ok (.iload 4, 2) := by decide +kernel
theorem dX12_runsGuarded_84 : decode cX12_runsGuarded 84 = .ok (.invokevirtual 161, 3) := by decide +kernel
theorem dX12_runsGuarded_87 : decode cX12_runsGuarded 87 = .ok (.iload_n 2, 1) := by decide +kernel
theorem dX12_runsGuarded_88 : decode cX12_runsGuarded 88 = .ok (.aload_n 0, 1) := by decide +kernel
theorem dX12_runsGuarded_89 : decode cX12_runsGuarded 89 = .ok (.getfield 115, 3) := by decide +kernel
theorem dX12_runsGuarded_92 : decode cX12_runsGuarded 92 = .ok (.iadd, 1) := by decide +kernel
theorem dX12_runsGuarded_93 : decode cX12_runsGuarded 93 = .ok (.istore_n 2, 1) := by decide +kernel
theorem dX12_runsGuarded_94 : decode cX12_runsGuarded 94 = .ok (.aload_n 0, 1) := by decide +kernel
theorem dX12_runsGuarded_95 : decode cX12_runsGuarded 95 = .ok (.getfield 35, 3) := by decide +kernel
theorem dX12_runsGuarded_98 : decode cX12_runsGuarded 98 = .ok (.aload_n 0, 1) := by decide +kernel
theorem dX12_runsGuarded_99 : decode cX12_runsGuarded 99 = .ok (.getfield 44, 3) := by decide +kernel
theorem dX12_runsGuarded_102 : decode cX12_runsGuarded 102 = .ok (.invokestatic 170, 3) := by decide +kernel
theorem dX12_runsGuarded_105 : decode cX12_runsGuarded 105 = .ok (.aload_n 0, 1) := by decide +kernel
theorem dX12_runsGuarded_106 : decode cX12_runsGuarded 106 = .ok (.getfield 47, 3) := by decide +kernel
theorem dX12_runsGuarded_109 : decode cX12_runsGuarded 109 = .ok (.aload_n 0, 1) := by decide +kernel
theorem dX12_runsGuarded_110 : decode cX12_runsGuarded 110 = .ok (.getfield 35, 3) := by decide +kernel
theorem dX12_runsGuarded_113 : decode cX12_runsGuarded 113 = .ok (.invokestatic 170, 3) := by decide +kernel
theorem dX12_runsGuarded_116 : decode cX12_runsGuarded 116 = .ok (.aload_n 0, 1) := by decide +kernel
theorem dX12_runsGuarded_117 : decode cX12_runsGuarded 117 = .ok (.iconst 0, 1) := by decide +kernel
theorem dX12_runsGuarded_118 : decode cX12_runsGuarded 118 = .ok (.putfield 115, 3) := by decide +kernel
theorem dX12_runsGuarded_121 : decode cX12_runsGuarded 121 = .ok (.aload_n 0, 1) := by decide +kernel
theorem dX12_runsGuarded_122 : decode cX12_runsGuarded 122 = .ok (.iconst 3, 1) := by decide +kernel
theorem dX12_runsGuarded_123 : decode cX12_runsGuarded 123 = .ok (.iload 4, 2) := by decide +kernel
theorem dX12_runsGuarded_125 : decode cX12_runsGuarded 125 = .ok (.invokevirtual 161, 3) := by decide +kernel
theorem dX12_runsGuarded_128 : decode cX12_runsGuarded 128 = .ok (.iload_n 3, 1) := by decide +kernel
theorem dX12_runsGuarded_129 : decode cX12_runsGuarded 129 = .ok (.aload_n 0, 1) := by decide +kernel
theorem dX12_runsGuarded_130 : decode cX12_runsGuarded 130 = .ok (.getfield 115, 3) := by decide +kernel
theorem dX12_runsGuarded_133 : decode cX12_runsGuarded 133 = .ok (.iadd, 1) := by decide +kernel
theorem dX12_runsGuarded_134 : decode cX12_runsGuarded 134 = .ok (.istore_n 3, 1) := by decide +kernel
theorem dX12_runsGuarded_135 : decode cX12_runsGuarded 135 = .ok (.aload_n 0, 1) := by decide +kernel
theorem dX12_runsGuarded_136 : decode cX12_runsGuarded 136 = .ok (.getfield 35, 3) := by decide +kernel
theorem dX12_runsGuarded_139 : decode cX12_runsGuarded 139 = .ok (.aload_n 0, 1) := by decide +kernel
theorem dX12_runsGuarded_140 : decode cX12_runsGuarded 140 = .ok (.getfield 47, 3) := by decide +kernel
theorem dX12_runsGuarded_143 : decode cX12_runsGuarded 143 = .ok (.invokestatic 170, 3) := by decide +kernel
theorem dX12_runsGuarded_146 : decode cX12_runsGuarded 146 = .ok (.aload_n 0, 1) := by decide +kernel
theorem dX12_runsGuarded_147 : decode cX12_runsGuarded 147 = .ok (.getfield 164, 3) := by decide +kernel
theorem dX12_runsGuarded_150 : decode cX12_runsGuarded 150 = .ok (.iconst 3, 1) := by decide +kernel
theorem dX12_runsGuarded_151 : decode cX12_runsGuarded 151 = .ok (.if_icmp .ne 21, 3) := by decide +kernel
theorem dX12_runsGuarded_154 : decode cX12_runsGuarded 154 = .ok (.iload_n 3, 1) := by decide +kernel
theorem dX12_runsGuarded_155 : decode cX12_runsGuarded 155 = .ok (.aload_n 0, 1) := by decide +kernel
theorem dX12_runsGuarded_156 : decode cX12_runsGuarded 156 = .ok (.getfield 23, 3) := by decide +kernel
theorem dX12_runsGuarded_159 : decode cX12_runsGuarded 159 = .ok (.iload_n 2, 1) := by decide +kernel
theorem dX12_runsGuarded_160 : decode cX12_runsGuarded 160 = .ok (.imul, 1) := by decide +kernel
theorem dX12_runsGuarded_161 : decode cX12_runsGuarded 161 = .ok (.if_icmp .le 11, 3) := by decide +kernel
theorem dX12_runsGuarded_164 : decode cX12_runsGuarded 164 = .ok (.aload_n 0, 1) := by decide +kernel
theorem dX12_runsGuarded_165 : decode cX12_runsGuarded 165 = .ok (.iconst 1, 1) := by decide +kernel
theorem dX12_runsGuarded_166 : decode cX12_runsGuarded 166 = .ok (.putfield 164, 3) := by decide +kernel
theorem dX12_runsGuarded_169 : decode cX12_runsGuarded 169 = .ok (.goto 26, 3) := by decide +kernel
theorem dX12_runsGuarded_172 : decode cX12_runsGuarded 172 = .ok (.aload_n 0, 1) := by decide +kernel
theorem dX12_runsGuarded_173 : decode cX12_runsGuarded 173 = .ok (.getfield 164, 3) := by decide +kernel
theorem dX12_runsGuarded_176 : decode cX12_runsGuarded 176 = .ok (.iconst 1, 1) := by decide +kernel
theorem dX12_runsGuarded_177 : decode cX12_runsGuarded 177 = .ok (.if_icmp .ne 18, 3) := by decide +kernel
theorem dX12_runsGuarded_180 : decode cX12_runsGuarded 180 = .ok (.iload_n 2, 1) := by decide +kernel
theorem dX12_runsGuarded_181 : decode cX12_runsGuarded 181 = .ok (.aload_n 0, 1) := by decide +kernel
theorem dX12_runsGuarded_182 : decode cX12_runsGuarded 182 = .ok (.getfield 23, 3) := by decide +kernel
theorem dX12_runsGuarded_185 : decode cX12_runsGuarded 185 = .ok (.iload_n 3, 1) := by decide +kernel
theorem dX12_runsGuarded_186 : decode cX12_runsGuarded 186 = .ok (.imul, 1) := by decide +kernel
theorem dX12_runsGuarded_187 : decode cX12_runsGuarded 187 = .ok (.if_icmp .le 8, 3) := by decide +kernel
theorem dX12_runsGuarded_190 : decode cX12_runsGuarded 190 = .ok (.aload_n 0, 1) := by decide +kernel
theorem dX12_runsGuarded_191 : decode cX12_runsGuarded 191 = .ok (.iconst 3, 1) := by decide +kernel
theorem dX12_runsGuarded_192 : decode cX12_runsGuarded 192 = .ok (.putfield 164, 3) := by decide +kernel
theorem dX12_runsGuarded_195 : decode cX12_runsGuarded 195 = .ok (.aload_n 0, 1) := by decide +kernel
theorem dX12_runsGuarded_196 : decode cX12_runsGuarded 196 = .ok (.getfield 164, 3) := by decide +kernel
theorem dX12_runsGuarded_199 : decode cX12_runsGuarded 199 = .ok (.iconst 1, 1) := by decide +kernel
theorem dX12_runsGuarded_200 : decode cX12_runsGuarded 200 = .ok (.if_icmp .ne 10, 3) := by decide +kernel
theorem dX12_runsGuarded_203 : decode cX12_runsGuarded 203 = .ok (.aload_n 0, 1) := by decide +kernel
theorem dX12_runsGuarded_204 : decode cX12_runsGuarded 204 = .ok (.getfield 44, 3) := by decide +kernel
theorem dX12_runsGuarded_207 : decode cX12_runsGuarded 207 = .ok (.goto 7, 3) := by decide +kernel
theorem dX12_runsGuarded_210 : decode cX12_runsGuarded 210 = .ok (.aload_n 0, 1) := by decide +kernel
theorem dX12_runsGuarded_211 : decode cX12_runsGuarded 211 = .ok (.getfield 47, 3) := by decide +kernel
theorem dX12_runsGuarded_214 : decode cX12_runsGuarded 214 = .ok (.aload_n 0, 1) := by decide +kernel
theorem dX12_runsGuarded_215 : decode cX12_runsGuarded 215 = .ok (.getfield 35, 3) := by decide +kernel
theorem dX12_runsGuarded_218 : decode cX12_runsGuarded 218 = .ok (.invokestatic 170, 3) := by decide +kernel
theorem dX12_runsGuarded_221 : decode cX12_runsGuarded 221 = .ok (.aload_n 0, 1) := by decide +kernel
theorem dX12_runsGuarded_222 : decode cX12_runsGuarded 222 = .ok (.dup, 1) := by decide +kernel
theorem dX12_runsGuarded_223 : decode cX12_runsGuarded 223 = .ok (.getfield 167, 3) := by decide +kernel
theorem dX12_runsGuarded_226 : decode cX12_runsGuarded 226 = .ok (.aload_n 0, 1) := by decide +kernel
theorem dX12_runsGuarded_227 : decode cX12_runsGuarded 227 = .ok (.aload_n 0, 1) := by decide +kernel
theorem dX12_runsGuarded_228 : decode cX12_runsGuarded 228 = .ok (.getfield 50, 3) := by decide +kernel
theorem dX12_runsGuarded_231 : decode cX12_runsGuarded 231 = .ok (.iconst 0, 1) := by decide +kernel
theorem dX12_runsGuarded_232 : decode cX12_runsGuarded 232 = .ok (.iaload, 1) := by decide +kernel
theorem dX12_runsGuarded_233 : decode cX12_runsGuarded 233 = .ok (.aload_n 0, 1) := by decide +kernel
theorem dX12_runsGuarded_234 : decode cX12_runsGuarded 234 = .ok (.getfield 50, 3) := by decide +kernel
theorem dX12_runsGuarded_237 : decode cX12_runsGuarded 237 = .ok (.iconst 1, 1) := by decide +kernel
theorem dX12_runsGuarded_238 : decode cX12_runsGuarded 238 = .ok (.iaload, 1) := by decide +kernel
theorem dX12_runsGuarded_239 : decode cX12_runsGuarded 239 = .ok (.aload_n 0, 1) := by decide +kernel
theorem dX12_runsGuarded_240 : decode cX12_runsGuarded 240 = .ok (.getfield 50, 3) := by decide +kernel
theorem dX12_runsGuarded_243 : decode cX12_runsGuarded 243 = .ok (.iconst 2, 1) := by decide +kernel
theorem dX12_runsGuarded_244 : decode cX12_runsGuarded 244 = .ok (.iaload, 1) := by decide +kernel
theorem dX12_runsGuarded_245 : decode cX12_runsGuarded 245 = .ok (.aload_n 0, 1) := by decide +kernel
theorem dX12_runsGuarded_246 : decode cX12_runsGuarded 246 = .ok (.getfield 35, 3) := by decide +kernel
theorem dX12_runsGuarded_249 : decode cX12_runsGuarded 249 = .ok (.iconst 0, 1) := by decide +kernel
theorem dX12_runsGuarded_250 : decode cX12_runsGuarded 250 = .ok (.iaload, 1) := by decide +kernel
theorem dX12_runsGuarded_251 : decode cX12_runsGuarded 251 = .ok (.aload_n 0, 1) := by decide +kernel
theorem dX12_runsGuarded_252 : decode cX12_runsGuarded 252 = .ok (.getfield 35, 3) := by decide +kernel
theorem dX12_runsGuarded_255 : decode cX12_runsGuarded 255 = .ok (.iconst 1, 1) := by decide +kernel
theorem dX12_runsGuarded_256 : decode cX12_runsGuarded 256 = .ok (.iaload, 1) := by decide +kernel
theorem dX12_runsGuarded_257 : decode cX12_runsGuarded 257 = .ok (.aload_n 0, 1) := by decide +kernel
theorem dX12_runsGuarded_258 : decode cX12_runsGuarded 258 = .ok (.getfield 35, 3) := by decide +kernel
theorem dX12_runsGuarded_261 : decode cX12_runsGuarded 261 = .ok (.iconst 2, 1) := by decide +kernel
theorem dX12_runsGuarded_262 : decode cX12_runsGuarded 262 = .ok (.iaload, 1) := by decide +kernel
theorem dX12_runsGuarded_263 : decode cX12_runsGuarded 263 = .ok (.invokevirtual 132, 3) := by decide +kernel
theorem dX12_runsGuarded_266 : decode cX12_runsGuarded 266 = .ok (.iadd, 1) := by decide +kernel
theorem dX12_runsGuarded_267 : decode cX12_runsGuarded 267 = .ok (.putfield 167, 3) := by decide +kernel
theorem dX12_runsGuarded_270 : decode cX12_runsGuarded 270 = .ok (.aload_n 0, 1) := by decide +kernel
end
section
theorem dX12_runsGuarded_271 : decode cX12_runsGuarded 271 = .ok (.getfield 35, 3) := by decide +kernel
theorem dX12_runsGuarded_274 : decode cX12_runsGuarded 274 = .ok (.aload_n 0, 1) := by decide +kernel
theorem dX12_runsGuarded_275 : decode cX12_runsGuarded 275 = .ok (.getfield 50, 3) := by decide +kernel
theorem dX12_runsGuarded_278 : decode cX12_runsGuarded 278 = .ok (.invokestatic 170, 3) := by decide +kernel
theorem dX12_runsGuarded_281 : decode cX12_runsGuarded 281 = .ok (.iinc 4 1, 3) := by decide +kernel
theorem dX12_runsGuarded_284 : decode cX12_runsGuarded 284 = .ok (.goto (-230), 3) := by decide +kernel
theorem dX12_runsGuarded_287 : decode cX12_runsGuarded 287 = .ok (.return_, 1) := by decide +kernel
theorem dX12_costOf_0 : decode cX12_costOf 0 = .ok (.iload_n 1, 1) := by decide +kernel
theorem dX12_costOf_1 : decode cX12_costOf 1 = .ok (.iconst 4, 1) := by decide +kernel
theorem dX12_costOf_2 : decode cX12_costOf 2 = .ok (.if_icmp .ne 16, 3) := by decide +kernel
theorem dX12_costOf_5 : decode cX12_costOf 5 = .ok (.aload_n 0, 1) := by decide +kernel
theorem dX12_costOf_6 : decode cX12_costOf 6 = .ok (.aload_n 0, 1) := by decide +kernel
theorem dX12_costOf_7 : decode cX12_costOf 7 = .ok (.getfield 77, 3) := by decide +kernel
theorem dX12_costOf_10 : decode cX12_costOf 10 = .ok (.invokevirtual 174, 3) := by decide +kernel
theorem dX12_costOf_13 : decode cX12_costOf 13 = .ok (.aload_n 0, 1) := by decide +kernel
theorem dX12_costOf_14 : decode cX12_costOf 14 = .ok (.getfield 167, 3) := by decide +kernel
theorem dX12_costOf_17 : decode cX12_costOf 17 = .ok (.ireturn, 1) := by decide +kernel
theorem dX12_costOf_18 : decode cX12_costOf 18 = .ok (.aload_n 0, 1) := by decide +kernel
theorem dX12_costOf_19 : decode cX12_costOf 19 = .ok (.iload_n 1, 1) := by decide +kernel
theorem dX12_costOf_20 : decode cX12_costOf 20 = .ok (.aload_n 0, 1) := by decide +kernel
theorem dX12_costOf_21 : decode cX12_costOf 21 = .ok (.getfield 77, 3) := by decide +kernel
theorem dX12_costOf_24 : decode cX12_costOf 24 = .ok (.invokevirtual 177, 3) := by decide +kernel
theorem dX12_costOf_27 : decode cX12_costOf 27 = .ok (.aload_n 0, 1) := by decide +kernel
theorem dX12_costOf_28 : decode cX12_costOf 28 = .ok (.getfield 115, 3) := by decide +kernel
theorem dX12_costOf_31 : decode cX12_costOf 31 = .ok (.ireturn, 1) := by decide +kernel
theorem dX12_cost_0 : decode cX12_cost 0 = .ok (.iload_n 1, 1) := by decide +kernel
theorem dX12_cost_1 : decode cX12_cost 1 = .ok (.iconst 0, 1) := by decide +kernel
theorem dX12_cost_2 : decode cX12_cost 2 = .ok (.iconst 4, 1) := by decide +kernel
theorem dX12_cost_3 : decode cX12_cost 3 = .ok (.invokestatic 69, 3) := by decide +kernel
theorem dX12_cost_6 : decode cX12_cost 6 = .ok (.ifCond .ne 6, 3) := by decide +kernel
theorem dX12_cost_9 : decode cX12_cost 9 = .ok (.bipush (-2), 2) := by decide +kernel
theorem dX12_cost_11 : decode cX12_cost 11 = .ok (.ireturn, 1) := by decide +kernel
theorem dX12_cost_12 : decode cX12_cost 12 = .ok (.aload_n 0, 1) := by decide +kernel
theorem dX12_cost_13 : decode cX12_cost 13 = .ok (.invokevirtual 83, 3) := by decide +kernel
theorem dX12_cost_16 : decode cX12_cost 16 = .ok (.ifCond .eq 11, 3) := by decide +kernel
theorem dX12_cost_19 : decode cX12_cost 19 = .ok (.aload_n 0, 1) := by decide +kernel
theorem dX12_cost_20 : decode cX12_cost 20 = .ok (.iload_n 1, 1) := by decide +kernel
theorem dX12_cost_21 : decode cX12_cost 21 = .ok (.invokevirtual 180, 3) := by decide +kernel
theorem dX12_cost_24 : decode cX12_cost 24 = .ok (.goto 5, 3) := by decide +kernel
theorem dX12_cost_27 : decode cX12_cost 27 = .ok (.bipush (-11), 2) := by decide +kernel
theorem dX12_cost_29 : decode cX12_cost 29 = .ok (.ireturn, 1) := by decide +kernel
theorem dX12_stands_0 : decode cX12_stands 0 = .ok (.iload_n 1, 1) := by decide +kernel
theorem dX12_stands_1 : decode cX12_stands 1 = .ok (.iconst 0, 1) := by decide +kernel
theorem dX12_stands_2 : decode cX12_stands 2 = .ok (.iconst 3, 1) := by decide +kernel
theorem dX12_stands_3 : decode cX12_stands 3 = .ok (.invokestatic 69, 3) := by decide +kernel
theorem dX12_stands_6 : decode cX12_stands 6 = .ok (.ifCond .eq 27, 3) := by decide +kernel
theorem dX12_stands_9 : decode cX12_stands 9 = .ok (.iload_n 2, 1) := by decide +kernel
theorem dX12_stands_10 : decode cX12_stands 10 = .ok (.iconst 0, 1) := by decide +kernel
theorem dX12_stands_11 : decode cX12_stands 11 = .ok (.aload_n 0, 1) := by decide +kernel
theorem dX12_stands_12 : decode cX12_stands 12 = .ok (.getfield 17, 3) := by decide +kernel
theorem dX12_stands_15 : decode cX12_stands 15 = .ok (.iconst 1, 1) := by decide +kernel
theorem dX12_stands_16 : decode cX12_stands 16 = .ok (.isub, 1) := by decide +kernel
theorem dX12_stands_17 : decode cX12_stands 17 = .ok (.invokestatic 69, 3) := by decide +kernel
theorem dX12_stands_20 : decode cX12_stands 20 = .ok (.ifCond .eq 13, 3) := by decide +kernel
theorem dX12_stands_23 : decode cX12_stands 23 = .ok (.iload_n 3, 1) := by decide +kernel
theorem dX12_stands_24 : decode cX12_stands 24 = .ok (.iconst 0, 1) := by decide +kernel
theorem dX12_stands_25 : decode cX12_stands 25 = .ok (.bipush 40, 2) := by decide +kernel
theorem dX12_stands_27 : decode cX12_stands 27 = .ok (.invokestatic 69, 3) := by decide +kernel
theorem dX12_stands_30 : decode cX12_stands 30 = .ok (.ifCond .ne 6, 3) := by decide +kernel
theorem dX12_stands_33 : decode cX12_stands 33 = .ok (.bipush (-2), 2) := by decide +kernel
theorem dX12_stands_35 : decode cX12_stands 35 = .ok (.ireturn, 1) := by decide +kernel
theorem dX12_stands_36 : decode cX12_stands 36 = .ok (.aload_n 0, 1) := by decide +kernel
theorem dX12_stands_37 : decode cX12_stands 37 = .ok (.invokevirtual 83, 3) := by decide +kernel
theorem dX12_stands_40 : decode cX12_stands 40 = .ok (.ifCond .ne 6, 3) := by decide +kernel
theorem dX12_stands_43 : decode cX12_stands 43 = .ok (.bipush (-11), 2) := by decide +kernel
theorem dX12_stands_45 : decode cX12_stands 45 = .ok (.ireturn, 1) := by decide +kernel
theorem dX12_stands_46 : decode cX12_stands 46 = .ok (.aload_n 0, 1) := by decide +kernel
theorem dX12_stands_47 : decode cX12_stands 47 = .ok (.iload_n 1, 1) := by decide +kernel
theorem dX12_stands_48 : decode cX12_stands 48 = .ok (.iload_n 3, 1) := by decide +kernel
theorem dX12_stands_49 : decode cX12_stands 49 = .ok (.invokevirtual 177, 3) := by decide +kernel
theorem dX12_stands_52 : decode cX12_stands 52 = .ok (.aload_n 0, 1) := by decide +kernel
theorem dX12_stands_53 : decode cX12_stands 53 = .ok (.getfield 35, 3) := by decide +kernel
theorem dX12_stands_56 : decode cX12_stands 56 = .ok (.iload_n 2, 1) := by decide +kernel
theorem dX12_stands_57 : decode cX12_stands 57 = .ok (.iaload, 1) := by decide +kernel
theorem dX12_stands_58 : decode cX12_stands 58 = .ok (.ireturn, 1) := by decide +kernel
theorem dX12_goes_0 : decode cX12_goes 0 = .ok (.iload_n 1, 1) := by decide +kernel
theorem dX12_goes_1 : decode cX12_goes 1 = .ok (.ifCond .eq 13, 3) := by decide +kernel
theorem dX12_goes_4 : decode cX12_goes 4 = .ok (.iload_n 1, 1) := by decide +kernel
theorem dX12_goes_5 : decode cX12_goes 5 = .ok (.iconst 2, 1) := by decide +kernel
theorem dX12_goes_6 : decode cX12_goes 6 = .ok (.if_icmp .eq 8, 3) := by decide +kernel
theorem dX12_goes_9 : decode cX12_goes 9 = .ok (.iload_n 1, 1) := by decide +kernel
theorem dX12_goes_10 : decode cX12_goes 10 = .ok (.iconst 3, 1) := by decide +kernel
theorem dX12_goes_11 : decode cX12_goes 11 = .ok (.if_icmp .ne 13, 3) := by decide +kernel
theorem dX12_goes_14 : decode cX12_goes 14 = .ok (.iload_n 2, 1) := by decide +kernel
theorem dX12_goes_15 : decode cX12_goes 15 = .ok (.iconst 0, 1) := by decide +kernel
theorem dX12_goes_16 : decode cX12_goes 16 = .ok (.bipush 39, 2) := by decide +kernel
theorem dX12_goes_18 : decode cX12_goes 18 = .ok (.invokestatic 69, 3) := by decide +kernel
theorem dX12_goes_21 : decode cX12_goes 21 = .ok (.ifCond .ne 6, 3) := by decide +kernel
theorem dX12_goes_24 : decode cX12_goes 24 = .ok (.bipush (-2), 2) := by decide +kernel
theorem dX12_goes_26 : decode cX12_goes 26 = .ok (.ireturn, 1) := by decide +kernel
theorem dX12_goes_27 : decode cX12_goes 27 = .ok (.aload_n 0, 1) := by decide +kernel
theorem dX12_goes_28 : decode cX12_goes 28 = .ok (.invokevirtual 83, 3) := by decide +kernel
theorem dX12_goes_31 : decode cX12_goes 31 = .ok (.ifCond .ne 6, 3) := by decide +kernel
theorem dX12_goes_34 : decode cX12_goes 34 = .ok (.bipush (-11), 2) := by decide +kernel
theorem dX12_goes_36 : decode cX12_goes 36 = .ok (.ireturn, 1) := by decide +kernel
theorem dX12_goes_37 : decode cX12_goes 37 = .ok (.iload_n 2, 1) := by decide +kernel
theorem dX12_goes_38 : decode cX12_goes 38 = .ok (.aload_n 0, 1) := by decide +kernel
theorem dX12_goes_39 : decode cX12_goes 39 = .ok (.getfield 77, 3) := by decide +kernel
theorem dX12_goes_42 : decode cX12_goes 42 = .ok (.if_icmp .lt 5, 3) := by decide +kernel
theorem dX12_goes_45 : decode cX12_goes 45 = .ok (.iconst (-1), 1) := by decide +kernel
theorem dX12_goes_46 : decode cX12_goes 46 = .ok (.ireturn, 1) := by decide +kernel
theorem dX12_goes_47 : decode cX12_goes 47 = .ok (.aload_n 0, 1) := by decide +kernel
theorem dX12_goes_48 : decode cX12_goes 48 = .ok (.iload_n 1, 1) := by decide +kernel
theorem dX12_goes_49 : decode cX12_goes 49 = .ok (.iload_n 2, 1) := by decide +kernel
theorem dX12_goes_50 : decode cX12_goes 50 = .ok (.iconst 1, 1) := by decide +kernel
theorem dX12_goes_51 : decode cX12_goes 51 = .ok (.iadd, 1) := by decide +kernel
theorem dX12_goes_52 : decode cX12_goes 52 = .ok (.invokevirtual 177, 3) := by decide +kernel
theorem dX12_goes_55 : decode cX12_goes 55 = .ok (.aload_n 0, 1) := by decide +kernel
theorem dX12_goes_56 : decode cX12_goes 56 = .ok (.getfield 118, 3) := by decide +kernel
theorem dX12_goes_59 : decode cX12_goes 59 = .ok (.ireturn, 1) := by decide +kernel
theorem dX12_share_0 : decode cX12_share 0 = .ok (.iload_n 1, 1) := by decide +kernel
theorem dX12_share_1 : decode cX12_share 1 = .ok (.iconst 0, 1) := by decide +kernel
theorem dX12_share_2 : decode cX12_share 2 = .ok (.iconst 4, 1) := by decide +kernel
theorem dX12_share_3 : decode cX12_share 3 = .ok (.invokestatic 69, 3) := by decide +kernel
theorem dX12_share_6 : decode cX12_share 6 = .ok (.ifCond .ne 6, 3) := by decide +kernel
theorem dX12_share_9 : decode cX12_share 9 = .ok (.bipush (-2), 2) := by decide +kernel
theorem dX12_share_11 : decode cX12_share 11 = .ok (.ireturn, 1) := by decide +kernel
theorem dX12_share_12 : decode cX12_share 12 = .ok (.aload_n 0, 1) := by decide +kernel
theorem dX12_share_13 : decode cX12_share 13 = .ok (.invokevirtual 83, 3) := by decide +kernel
theorem dX12_share_16 : decode cX12_share 16 = .ok (.ifCond .ne 6, 3) := by decide +kernel
theorem dX12_share_19 : decode cX12_share 19 = .ok (.bipush (-11), 2) := by decide +kernel
theorem dX12_share_21 : decode cX12_share 21 = .ok (.ireturn, 1) := by decide +kernel
theorem dX12_share_22 : decode cX12_share 22 = .ok (.aload_n 0, 1) := by decide +kernel
theorem dX12_share_23 : decode cX12_share 23 = .ok (.invokevirtual 112, 3) := by decide +kernel
theorem dX12_share_26 : decode cX12_share 26 = .ok (.istore_n 2, 1) := by decide +kernel
theorem dX12_share_27 : decode cX12_share 27 = .ok (.iload_n 2, 1) := by decide +kernel
theorem dX12_share_28 : decode cX12_share 28 = .ok (.ifCond .ne 8, 3) := by decide +kernel
theorem dX12_share_31 : decode cX12_share 31 = .ok (.bipush (-3), 2) := by decide +kernel
theorem dX12_share_33 : decode cX12_share 33 = .ok (.goto 13, 3) := by decide +kernel
theorem dX12_share_36 : decode cX12_share 36 = .ok (.bipush 100, 2) := by decide +kernel
theorem dX12_share_38 : decode cX12_share 38 = .ok (.aload_n 0, 1) := by decide +kernel
theorem dX12_share_39 : decode cX12_share 39 = .ok (.iload_n 1, 1) := by decide +kernel
theorem dX12_share_40 : decode cX12_share 40 = .ok (.invokevirtual 180, 3) := by decide +kernel
theorem dX12_share_43 : decode cX12_share 43 = .ok (.imul, 1) := by decide +kernel
theorem dX12_share_44 : decode cX12_share 44 = .ok (.iload_n 2, 1) := by decide +kernel
theorem dX12_share_45 : decode cX12_share 45 = .ok (.idiv, 1) := by decide +kernel
theorem dX12_share_46 : decode cX12_share 46 = .ok (.ireturn, 1) := by decide +kernel
theorem dX12_work_0 : decode cX12_work 0 = .ok (.iload_n 1, 1) := by decide +kernel
theorem dX12_work_1 : decode cX12_work 1 = .ok (.iconst 0, 1) := by decide +kernel
theorem dX12_work_2 : decode cX12_work 2 = .ok (.aload_n 0, 1) := by decide +kernel
theorem dX12_work_3 : decode cX12_work 3 = .ok (.getfield 7, 3) := by decide +kernel
theorem dX12_work_6 : decode cX12_work 6 = .ok (.iconst 1, 1) := by decide +kernel
theorem dX12_work_7 : decode cX12_work 7 = .ok (.isub, 1) := by decide +kernel
theorem dX12_work_8 : decode cX12_work 8 = .ok (.invokestatic 69, 3) := by decide +kernel
theorem dX12_work_11 : decode cX12_work 11 = .ok (.istore 5, 2) := by decide +kernel
theorem dX12_work_13 : decode cX12_work 13 = .ok (.iload_n 2, 1) := by decide +kernel
theorem dX12_work_14 : decode cX12_work 14 = .ok (.iconst 0, 1) := by decide +kernel
theorem dX12_work_15 : decode cX12_work 15 = .ok (.aload_n 0, 1) := by decide +kernel
theorem dX12_work_16 : decode cX12_work 16 = .ok (.getfield 17, 3) := by decide +kernel
theorem dX12_work_19 : decode cX12_work 19 = .ok (.iconst 1, 1) := by decide +kernel
theorem dX12_work_20 : decode cX12_work 20 = .ok (.if_icmp .le 12, 3) := by decide +kernel
theorem dX12_work_23 : decode cX12_work 23 = .ok (.aload_n 0, 1) := by decide +kernel
theorem dX12_work_24 : decode cX12_work 24 = .ok (.getfield 7, 3) := by decide +kernel
theorem dX12_work_27 : decode cX12_work 27 = .ok (.iconst 1, 1) := by decide +kernel
theorem dX12_work_28 : decode cX12_work 28 = .ok (.isub, 1) := by decide +kernel
theorem dX12_work_29 : decode cX12_work 29 = .ok (.goto 4, 3) := by decide +kernel
theorem dX12_work_32 : decode cX12_work 32 = .ok (.iconst 5, 1) := by decide +kernel
theorem dX12_work_33 : decode cX12_work 33 = .ok (.invokestatic 69, 3) := by decide +kernel
theorem dX12_work_36 : decode cX12_work 36 = .ok (.istore 6, 2) := by decide +kernel
theorem dX12_work_38 : decode cX12_work 38 = .ok (.iload_n 3, 1) := by decide +kernel
theorem dX12_work_39 : decode cX12_work 39 = .ok (.iconst 0, 1) := by decide +kernel
theorem dX12_work_40 : decode cX12_work 40 = .ok (.aload_n 0, 1) := by decide +kernel
theorem dX12_work_41 : decode cX12_work 41 = .ok (.getfield 17, 3) := by decide +kernel
theorem dX12_work_44 : decode cX12_work 44 = .ok (.iconst 2, 1) := by decide +kernel
theorem dX12_work_45 : decode cX12_work 45 = .ok (.if_icmp .le 12, 3) := by decide +kernel
theorem dX12_work_48 : decode cX12_work 48 = .ok (.aload_n 0, 1) := by decide +kernel
theorem dX12_work_49 : decode cX12_work 49 = .ok (.getfield 7, 3) := by decide +kernel
theorem dX12_work_52 : decode cX12_work 52 = .ok (.iconst 1, 1) := by decide +kernel
theorem dX12_work_53 : decode cX12_work 53 = .ok (.isub, 1) := by decide +kernel
theorem dX12_work_54 : decode cX12_work 54 = .ok (.goto 4, 3) := by decide +kernel
theorem dX12_work_57 : decode cX12_work 57 = .ok (.iconst 5, 1) := by decide +kernel
theorem dX12_work_58 : decode cX12_work 58 = .ok (.invokestatic 69, 3) := by decide +kernel
theorem dX12_work_61 : decode cX12_work 61 = .ok (.istore 7, 2) := by decide +kernel
theorem dX12_work_63 : decode cX12_work 63 = .ok (.iload 5, 2) := by decide +kernel
theorem dX12_work_65 : decode cX12_work 65 = .ok (.ifCond .eq 24, 3) := by decide +kernel
theorem dX12_work_68 : decode cX12_work 68 = .ok (.iload 6, 2) := by decide +kernel
theorem dX12_work_70 : decode cX12_work 70 = .ok (.ifCond .eq 19, 3) := by decide +kernel
theorem dX12_work_73 : decode cX12_work 73 = .ok (.iload 7, 2) := by decide +kernel
theorem dX12_work_75 : decode cX12_work 75 = .ok (.ifCond .eq 14, 3) := by decide +kernel
theorem dX12_work_78 : decode cX12_work 78 = .ok (.iload 4, 2) := by decide +kernel
theorem dX12_work_80 : decode cX12_work 80 = .ok (.iconst 0, 1) := by decide +kernel
theorem dX12_work_81 : decode cX12_work 81 = .ok (.bipush 40, 2) := by decide +kernel
theorem dX12_work_83 : decode cX12_work 83 = .ok (.invokestatic 69, 3) := by decide +kernel
theorem dX12_work_86 : decode cX12_work 86 = .ok (.ifCond .ne 6, 3) := by decide +kernel
theorem dX12_work_89 : decode cX12_work 89 = .ok (.bipush (-2), 2) := by decide +kernel
theorem dX12_work_91 : decode cX12_work 91 = .ok (.ireturn, 1) := by decide +kernel
theorem dX12_work_92 : decode cX12_work 92 = .ok (.aload_n 0, 1) := by decide +kernel
theorem dX12_work_93 : decode cX12_work 93 = .ok (.invokevirtual 83, 3) := by decide +kernel
theorem dX12_work_96 : decode cX12_work 96 = .ok (.ifCond .ne 6, 3) := by decide +kernel
theorem dX12_work_99 : decode cX12_work 99 = .ok (.bipush (-11), 2) := by decide +kernel
theorem dX12_work_101 : decode cX12_work 101 = .ok (.ireturn, 1) := by decide +kernel
theorem dX12_work_102 : decode cX12_work 102 = .ok (.aload_n 0, 1) := by decide +kernel
theorem dX12_work_103 : decode cX12_work 103 = .ok (.invokevirtual 155, 3) := by decide +kernel
theorem dX12_work_106 : decode cX12_work 106 = .ok (.iconst 0, 1) := by decide +kernel
theorem dX12_work_107 : decode cX12_work 107 = .ok (.istore 8, 2) := by decide +kernel
theorem dX12_work_109 : decode cX12_work 109 = .ok (.iload 8, 2) := by decide +kernel
theorem dX12_work_111 : decode cX12_work 111 = .ok (.aload_n 0, 1) := by decide +kernel
theorem dX12_work_112 : decode cX12_work 112 = .ok (.iload 4, 2) := by decide +kernel
theorem dX12_work_114 : decode cX12_work 114 = .ok (.invokevirtual 158, 3) := by decide +kernel
theorem dX12_work_117 : decode cX12_work 117 = .ok (.if_icmp .ge 20, 3) := by decide +kernel
theorem dX12_work_120 : decode cX12_work 120 = .ok (.aload_n 0, 1) := by decide +kernel
theorem dX12_work_121 : decode cX12_work 121 = .ok (.aload_n 0, 1) := by decide +kernel
theorem dX12_work_122 : decode cX12_work 122 = .ok (.getfield 26, 3) := by decide +kernel
theorem dX12_work_125 : decode cX12_work 125 = .ok (.iload 8, 2) := by decide +kernel
theorem dX12_work_127 : decode cX12_work 127 = .ok (.iaload, 1) := by decide +kernel
theorem dX12_work_128 : decode cX12_work 128 = .ok (.invokevirtual 136, 3) := by decide +kernel
theorem dX12_work_131 : decode cX12_work 131 = .ok (.iinc 8 1, 3) := by decide +kernel
theorem dX12_work_134 : decode cX12_work 134 = .ok (.goto (-25), 3) := by decide +kernel
theorem dX12_work_137 : decode cX12_work 137 = .ok (.aload_n 0, 1) := by decide +kernel
theorem dX12_work_138 : decode cX12_work 138 = .ok (.getfield 38, 3) := by decide +kernel
theorem dX12_work_141 : decode cX12_work 141 = .ok (.iload_n 1, 1) := by decide +kernel
theorem dX12_work_142 : decode cX12_work 142 = .ok (.aload_n 0, 1) := by decide +kernel
theorem dX12_work_143 : decode cX12_work 143 = .ok (.getfield 17, 3) := by decide +kernel
theorem dX12_work_146 : decode cX12_work 146 = .ok (.iconst 1, 1) := by decide +kernel
theorem dX12_work_147 : decode cX12_work 147 = .ok (.if_icmp .le 10, 3) := by decide +kernel
theorem dX12_work_150 : decode cX12_work 150 = .ok (.bipush 6, 2) := by decide +kernel
theorem dX12_work_152 : decode cX12_work 152 = .ok (.iload_n 2, 1) := by decide +kernel
theorem dX12_work_153 : decode cX12_work 153 = .ok (.imul, 1) := by decide +kernel
theorem dX12_work_154 : decode cX12_work 154 = .ok (.goto 4, 3) := by decide +kernel
theorem dX12_work_157 : decode cX12_work 157 = .ok (.iconst 0, 1) := by decide +kernel
theorem dX12_work_158 : decode cX12_work 158 = .ok (.iadd, 1) := by decide +kernel
theorem dX12_work_159 : decode cX12_work 159 = .ok (.aload_n 0, 1) := by decide +kernel
theorem dX12_work_160 : decode cX12_work 160 = .ok (.getfield 17, 3) := by decide +kernel
theorem dX12_work_163 : decode cX12_work 163 = .ok (.iconst 2, 1) := by decide +kernel
theorem dX12_work_164 : decode cX12_work 164 = .ok (.if_icmp .le 10, 3) := by decide +kernel
theorem dX12_work_167 : decode cX12_work 167 = .ok (.bipush 36, 2) := by decide +kernel
theorem dX12_work_169 : decode cX12_work 169 = .ok (.iload_n 3, 1) := by decide +kernel
theorem dX12_work_170 : decode cX12_work 170 = .ok (.imul, 1) := by decide +kernel
theorem dX12_work_171 : decode cX12_work 171 = .ok (.goto 4, 3) := by decide +kernel
theorem dX12_work_174 : decode cX12_work 174 = .ok (.iconst 0, 1) := by decide +kernel
theorem dX12_work_175 : decode cX12_work 175 = .ok (.iadd, 1) := by decide +kernel
theorem dX12_work_176 : decode cX12_work 176 = .ok (.iaload, 1) := by decide +kernel
theorem dX12_work_177 : decode cX12_work 177 = .ok (.ireturn, 1) := by decide +kernel
theorem dX12_trusts_0 : decode cX12_trusts 0 = .ok (.iload_n 1, 1) := by decide +kernel
theorem dX12_trusts_1 : decode cX12_trusts 1 = .ok (.iconst 0, 1) := by decide +kernel
theorem dX12_trusts_2 : decode cX12_trusts 2 = .ok (.bipush 40, 2) := by decide +kernel
theorem dX12_trusts_4 : decode cX12_trusts 4 = .ok (.invokestatic 69, 3) := by decide +kernel
theorem dX12_trusts_7 : decode cX12_trusts 7 = .ok (.ifCond .ne 6, 3) := by decide +kernel
theorem dX12_trusts_10 : decode cX12_trusts 10 = .ok (.bipush (-2), 2) := by decide +kernel
theorem dX12_trusts_12 : decode cX12_trusts 12 = .ok (.ireturn, 1) := by decide +kernel
theorem dX12_trusts_13 : decode cX12_trusts 13 = .ok (.aload_n 0, 1) := by decide +kernel
theorem dX12_trusts_14 : decode cX12_trusts 14 = .ok (.invokevirtual 83, 3) := by decide +kernel
theorem dX12_trusts_17 : decode cX12_trusts 17 = .ok (.ifCond .ne 6, 3) := by decide +kernel
theorem dX12_trusts_20 : decode cX12_trusts 20 = .ok (.bipush (-11), 2) := by decide +kernel
theorem dX12_trusts_22 : decode cX12_trusts 22 = .ok (.ireturn, 1) := by decide +kernel
theorem dX12_trusts_23 : decode cX12_trusts 23 = .ok (.aload_n 0, 1) := by decide +kernel
theorem dX12_trusts_24 : decode cX12_trusts 24 = .ok (.iload_n 1, 1) := by decide +kernel
theorem dX12_trusts_25 : decode cX12_trusts 25 = .ok (.invokevirtual 174, 3) := by decide +kernel
theorem dX12_trusts_28 : decode cX12_trusts 28 = .ok (.aload_n 0, 1) := by decide +kernel
theorem dX12_trusts_29 : decode cX12_trusts 29 = .ok (.getfield 164, 3) := by decide +kernel
theorem dX12_trusts_32 : decode cX12_trusts 32 = .ok (.ireturn, 1) := by decide +kernel
theorem dX12_seeks_0 : decode cX12_seeks 0 = .ok (.iconst 1, 1) := by decide +kernel
theorem dX12_seeks_1 : decode cX12_seeks 1 = .ok (.istore_n 3, 1) := by decide +kernel
theorem dX12_seeks_2 : decode cX12_seeks 2 = .ok (.iconst 0, 1) := by decide +kernel
theorem dX12_seeks_3 : decode cX12_seeks 3 = .ok (.istore 4, 2) := by decide +kernel
theorem dX12_seeks_5 : decode cX12_seeks 5 = .ok (.iload 4, 2) := by decide +kernel
theorem dX12_seeks_7 : decode cX12_seeks 7 = .ok (.iload_n 2, 1) := by decide +kernel
theorem dX12_seeks_8 : decode cX12_seeks 8 = .ok (.if_icmp .ge 16, 3) := by decide +kernel
theorem dX12_seeks_11 : decode cX12_seeks 11 = .ok (.iload_n 3, 1) := by decide +kernel
theorem dX12_seeks_12 : decode cX12_seeks 12 = .ok (.aload_n 0, 1) := by decide +kernel
theorem dX12_seeks_13 : decode cX12_seeks 13 = .ok (.getfield 7, 3) := by decide +kernel
theorem dX12_seeks_16 : decode cX12_seeks 16 = .ok (.imul, 1) := by decide +kernel
theorem dX12_seeks_17 : decode cX12_seeks 17 = .ok (.istore_n 3, 1) := by decide +kernel
theorem dX12_seeks_18 : decode cX12_seeks 18 = .ok (.iinc 4 1, 3) := by decide +kernel
theorem dX12_seeks_21 : decode cX12_seeks 21 = .ok (.goto (-16), 3) := by decide +kernel
theorem dX12_seeks_24 : decode cX12_seeks 24 = .ok (.aload_n 0, 1) := by decide +kernel
theorem dX12_seeks_25 : decode cX12_seeks 25 = .ok (.iconst (-1), 1) := by decide +kernel
theorem dX12_seeks_26 : decode cX12_seeks 26 = .ok (.putfield 183, 3) := by decide +kernel
theorem dX12_seeks_29 : decode cX12_seeks 29 = .ok (.aload_n 0, 1) := by decide +kernel
theorem dX12_seeks_30 : decode cX12_seeks 30 = .ok (.iconst 0, 1) := by decide +kernel
theorem dX12_seeks_31 : decode cX12_seeks 31 = .ok (.putfield 186, 3) := by decide +kernel
theorem dX12_seeks_34 : decode cX12_seeks 34 = .ok (.aload_n 0, 1) := by decide +kernel
theorem dX12_seeks_35 : decode cX12_seeks 35 = .ok (.iconst 1, 1) := by decide +kernel
theorem dX12_seeks_36 : decode cX12_seeks 36 = .ok (.putfield 189, 3) := by decide +kernel
theorem dX12_seeks_39 : decode cX12_seeks 39 = .ok (.iconst 0, 1) := by decide +kernel
theorem dX12_seeks_40 : decode cX12_seeks 40 = .ok (.istore 4, 2) := by decide +kernel
theorem dX12_seeks_42 : decode cX12_seeks 42 = .ok (.iload 4, 2) := by decide +kernel
theorem dX12_seeks_44 : decode cX12_seeks 44 = .ok (.iload_n 3, 1) := by decide +kernel
theorem dX12_seeks_45 : decode cX12_seeks 45 = .ok (.if_icmp .ge 118, 3) := by decide +kernel
theorem dX12_seeks_48 : decode cX12_seeks 48 = .ok (.iload 4, 2) := by decide +kernel
theorem dX12_seeks_50 : decode cX12_seeks 50 = .ok (.istore 5, 2) := by decide +kernel
theorem dX12_seeks_52 : decode cX12_seeks 52 = .ok (.aload_n 0, 1) := by decide +kernel
theorem dX12_seeks_53 : decode cX12_seeks 53 = .ok (.iload_n 2, 1) := by decide +kernel
theorem dX12_seeks_54 : decode cX12_seeks 54 = .ok (.putfield 77, 3) := by decide +kernel
theorem dX12_seeks_57 : decode cX12_seeks 57 = .ok (.iload_n 2, 1) := by decide +kernel
theorem dX12_seeks_58 : decode cX12_seeks 58 = .ok (.iconst 1, 1) := by decide +kernel
theorem dX12_seeks_59 : decode cX12_seeks 59 = .ok (.isub, 1) := by decide +kernel
theorem dX12_seeks_60 : decode cX12_seeks 60 = .ok (.istore 6, 2) := by decide +kernel
theorem dX12_seeks_62 : decode cX12_seeks 62 = .ok (.iload 6, 2) := by decide +kernel
theorem dX12_seeks_64 : decode cX12_seeks 64 = .ok (.ifCond .lt 32, 3) := by decide +kernel
theorem dX12_seeks_67 : decode cX12_seeks 67 = .ok (.aload_n 0, 1) := by decide +kernel
theorem dX12_seeks_68 : decode cX12_seeks 68 = .ok (.getfield 26, 3) := by decide +kernel
theorem dX12_seeks_71 : decode cX12_seeks 71 = .ok (.iload 6, 2) := by decide +kernel
theorem dX12_seeks_73 : decode cX12_seeks 73 = .ok (.iload 5, 2) := by decide +kernel
theorem dX12_seeks_75 : decode cX12_seeks 75 = .ok (.aload_n 0, 1) := by decide +kernel
theorem dX12_seeks_76 : decode cX12_seeks 76 = .ok (.getfield 7, 3) := by decide +kernel
theorem dX12_seeks_79 : decode cX12_seeks 79 = .ok (.irem, 1) := by decide +kernel
theorem dX12_seeks_80 : decode cX12_seeks 80 = .ok (.iastore, 1) := by decide +kernel
theorem dX12_seeks_81 : decode cX12_seeks 81 = .ok (.iload 5, 2) := by decide +kernel
theorem dX12_seeks_83 : decode cX12_seeks 83 = .ok (.aload_n 0, 1) := by decide +kernel
theorem dX12_seeks_84 : decode cX12_seeks 84 = .ok (.getfield 7, 3) := by decide +kernel
theorem dX12_seeks_87 : decode cX12_seeks 87 = .ok (.idiv, 1) := by decide +kernel
theorem dX12_seeks_88 : decode cX12_seeks 88 = .ok (.istore 5, 2) := by decide +kernel
theorem dX12_seeks_90 : decode cX12_seeks 90 = .ok (.iinc 6 (-1), 3) := by decide +kernel
theorem dX12_seeks_93 : decode cX12_seeks 93 = .ok (.goto (-31), 3) := by decide +kernel
theorem dX12_seeks_96 : decode cX12_seeks 96 = .ok (.aload_n 0, 1) := by decide +kernel
theorem dX12_seeks_97 : decode cX12_seeks 97 = .ok (.invokevirtual 112, 3) := by decide +kernel
theorem dX12_seeks_100 : decode cX12_seeks 100 = .ok (.istore 6, 2) := by decide +kernel
theorem dX12_seeks_102 : decode cX12_seeks 102 = .ok (.iload 6, 2) := by decide +kernel
theorem dX12_seeks_104 : decode cX12_seeks 104 = .ok (.ifCond .le 53, 3) := by decide +kernel
theorem dX12_seeks_107 : decode cX12_seeks 107 = .ok (.aload_n 0, 1) := by decide +kernel
theorem dX12_seeks_108 : decode cX12_seeks 108 = .ok (.iload_n 1, 1) := by decide +kernel
theorem dX12_seeks_109 : decode cX12_seeks 109 = .ok (.invokevirtual 180, 3) := by decide +kernel
theorem dX12_seeks_112 : decode cX12_seeks 112 = .ok (.istore 7, 2) := by decide +kernel
theorem dX12_seeks_114 : decode cX12_seeks 114 = .ok (.aload_n 0, 1) := by decide +kernel
theorem dX12_seeks_115 : decode cX12_seeks 115 = .ok (.getfield 183, 3) := by decide +kernel
theorem dX12_seeks_118 : decode cX12_seeks 118 = .ok (.iconst (-1), 1) := by decide +kernel
theorem dX12_seeks_119 : decode cX12_seeks 119 = .ok (.if_icmp .eq 20, 3) := by decide +kernel
theorem dX12_seeks_122 : decode cX12_seeks 122 = .ok (.iload 7, 2) := by decide +kernel
theorem dX12_seeks_124 : decode cX12_seeks 124 = .ok (.aload_n 0, 1) := by decide +kernel
theorem dX12_seeks_125 : decode cX12_seeks 125 = .ok (.getfield 189, 3) := by decide +kernel
theorem dX12_seeks_128 : decode cX12_seeks 128 = .ok (.imul, 1) := by decide +kernel
theorem dX12_seeks_129 : decode cX12_seeks 129 = .ok (.aload_n 0, 1) := by decide +kernel
theorem dX12_seeks_130 : decode cX12_seeks 130 = .ok (.getfield 186, 3) := by decide +kernel
theorem dX12_seeks_133 : decode cX12_seeks 133 = .ok (.iload 6, 2) := by decide +kernel
theorem dX12_seeks_135 : decode cX12_seeks 135 = .ok (.imul, 1) := by decide +kernel
theorem dX12_seeks_136 : decode cX12_seeks 136 = .ok (.if_icmp .le 21, 3) := by decide +kernel
theorem dX12_seeks_139 : decode cX12_seeks 139 = .ok (.aload_n 0, 1) := by decide +kernel
theorem dX12_seeks_140 : decode cX12_seeks 140 = .ok (.iload 4, 2) := by decide +kernel
theorem dX12_seeks_142 : decode cX12_seeks 142 = .ok (.putfield 183, 3) := by decide +kernel
theorem dX12_seeks_145 : decode cX12_seeks 145 = .ok (.aload_n 0, 1) := by decide +kernel
theorem dX12_seeks_146 : decode cX12_seeks 146 = .ok (.iload 7, 2) := by decide +kernel
theorem dX12_seeks_148 : decode cX12_seeks 148 = .ok (.putfield 186, 3) := by decide +kernel
theorem dX12_seeks_151 : decode cX12_seeks 151 = .ok (.aload_n 0, 1) := by decide +kernel
theorem dX12_seeks_152 : decode cX12_seeks 152 = .ok (.iload 6, 2) := by decide +kernel
theorem dX12_seeks_154 : decode cX12_seeks 154 = .ok (.putfield 189, 3) := by decide +kernel
theorem dX12_seeks_157 : decode cX12_seeks 157 = .ok (.iinc 4 1, 3) := by decide +kernel
theorem dX12_seeks_160 : decode cX12_seeks 160 = .ok (.goto (-118), 3) := by decide +kernel
theorem dX12_seeks_163 : decode cX12_seeks 163 = .ok (.return_, 1) := by decide +kernel
theorem dX12_worst_0 : decode cX12_worst 0 = .ok (.iload_n 1, 1) := by decide +kernel
theorem dX12_worst_1 : decode cX12_worst 1 = .ok (.iconst 0, 1) := by decide +kernel
theorem dX12_worst_2 : decode cX12_worst 2 = .ok (.iconst 2, 1) := by decide +kernel
theorem dX12_worst_3 : decode cX12_worst 3 = .ok (.invokestatic 69, 3) := by decide +kernel
theorem dX12_worst_6 : decode cX12_worst 6 = .ok (.ifCond .eq 12, 3) := by decide +kernel
theorem dX12_worst_9 : decode cX12_worst 9 = .ok (.iload_n 2, 1) := by decide +kernel
theorem dX12_worst_10 : decode cX12_worst 10 = .ok (.iconst 1, 1) := by decide +kernel
theorem dX12_worst_11 : decode cX12_worst 11 = .ok (.iconst 3, 1) := by decide +kernel
theorem dX12_worst_12 : decode cX12_worst 12 = .ok (.invokestatic 69, 3) := by decide +kernel
theorem dX12_worst_15 : decode cX12_worst 15 = .ok (.ifCond .ne 6, 3) := by decide +kernel
theorem dX12_worst_18 : decode cX12_worst 18 = .ok (.bipush (-2), 2) := by decide +kernel
theorem dX12_worst_20 : decode cX12_worst 20 = .ok (.ireturn, 1) := by decide +kernel
theorem dX12_worst_21 : decode cX12_worst 21 = .ok (.aload_n 0, 1) := by decide +kernel
theorem dX12_worst_22 : decode cX12_worst 22 = .ok (.iload_n 1, 1) := by decide +kernel
theorem dX12_worst_23 : decode cX12_worst 23 = .ok (.iload_n 2, 1) := by decide +kernel
theorem dX12_worst_24 : decode cX12_worst 24 = .ok (.invokevirtual 192, 3) := by decide +kernel
theorem dX12_worst_27 : decode cX12_worst 27 = .ok (.aload_n 0, 1) := by decide +kernel
theorem dX12_worst_28 : decode cX12_worst 28 = .ok (.getfield 183, 3) := by decide +kernel
theorem dX12_worst_31 : decode cX12_worst 31 = .ok (.ireturn, 1) := by decide +kernel
theorem dX12_worstShare_0 : decode cX12_worstShare 0 = .ok (.iload_n 1, 1) := by decide +kernel
theorem dX12_worstShare_1 : decode cX12_worstShare 1 = .ok (.iconst 0, 1) := by decide +kernel
theorem dX12_worstShare_2 : decode cX12_worstShare 2 = .ok (.iconst 2, 1) := by decide +kernel
theorem dX12_worstShare_3 : decode cX12_worstShare 3 = .ok (.invokestatic 69, 3) := by decide +kernel
theorem dX12_worstShare_6 : decode cX12_worstShare 6 = .ok (.ifCond .eq 12, 3) := by decide +kernel
theorem dX12_worstShare_9 : decode cX12_worstShare 9 = .ok (.iload_n 2, 1) := by decide +kernel
theorem dX12_worstShare_10 : decode cX12_worstShare 10 = .ok (.iconst 1, 1) := by decide +kernel
theorem dX12_worstShare_11 : decode cX12_worstShare 11 = .ok (.iconst 3, 1) := by decide +kernel
theorem dX12_worstShare_12 : decode cX12_worstShare 12 = .ok (.invokestatic 69, 3) := by decide +kernel
theorem dX12_worstShare_15 : decode cX12_worstShare 15 = .ok (.ifCond .ne 6, 3) := by decide +kernel
theorem dX12_worstShare_18 : decode cX12_worstShare 18 = .ok (.bipush (-2), 2) := by decide +kernel
theorem dX12_worstShare_20 : decode cX12_worstShare 20 = .ok (.ireturn, 1) := by decide +kernel
theorem dX12_worstShare_21 : decode cX12_worstShare 21 = .ok (.aload_n 0, 1) := by decide +kernel
theorem dX12_worstShare_22 : decode cX12_worstShare 22 = .ok (.iload_n 1, 1) := by decide +kernel
theorem dX12_worstShare_23 : decode cX12_worstShare 23 = .ok (.iload_n 2, 1) := by decide +kernel
theorem dX12_worstShare_24 : decode cX12_worstShare 24 = .ok (.invokevirtual 192, 3) := by decide +kernel
theorem dX12_worstShare_27 : decode cX12_worstShare 27 = .ok (.aload_n 0, 1) := by decide +kernel
theorem dX12_worstShare_28 : decode cX12_worstShare 28 = .ok (.getfield 183, 3) := by decide +kernel
theorem dX12_worstShare_31 : decode cX12_worstShare 31 = .ok (.iconst (-1), 1) := by decide +kernel
theorem dX12_worstShare_32 : decode cX12_worstShare 32 = .ok (.if_icmp .ne 8, 3) := by decide +kernel
theorem dX12_worstShare_35 : decode cX12_worstShare 35 = .ok (.bipush (-3), 2) := by decide +kernel
theorem dX12_worstShare_37 : decode cX12_worstShare 37 = .ok (.goto 15, 3) := by decide +kernel
theorem dX12_worstShare_40 : decode cX12_worstShare 40 = .ok (.bipush 100, 2) := by decide +kernel
theorem dX12_worstShare_42 : decode cX12_worstShare 42 = .ok (.aload_n 0, 1) := by decide +kernel
theorem dX12_worstShare_43 : decode cX12_worstShare 43 = .ok (.getfield 186, 3) := by decide +kernel
theorem dX12_worstShare_46 : decode cX12_worstShare 46 = .ok (.imul, 1) := by decide +kernel
theorem dX12_worstShare_47 : decode cX12_worstShare 47 = .ok (.aload_n 0, 1) := by decide +kernel
theorem dX12_worstShare_48 : decode cX12_worstShare 48 = .ok (.getfield 189, 3) := by decide +kernel
theorem dX12_worstShare_51 : decode cX12_worstShare 51 = .ok (.idiv, 1) := by decide +kernel
theorem dX12_worstShare_52 : decode cX12_worstShare 52 = .ok (.ireturn, 1) := by decide +kernel
theorem dX12_longs_0 : decode cX12_longs 0 = .ok (.aload_n 0, 1) := by decide +kernel
theorem dX12_longs_1 : decode cX12_longs 1 = .ok (.getfield 13, 3) := by decide +kernel
theorem dX12_longs_4 : decode cX12_longs 4 = .ok (.aload_n 0, 1) := by decide +kernel
theorem dX12_longs_5 : decode cX12_longs 5 = .ok (.iload_n 1, 1) := by decide +kernel
theorem dX12_longs_6 : decode cX12_longs 6 = .ok (.iconst 0, 1) := by decide +kernel
theorem dX12_longs_7 : decode cX12_longs 7 = .ok (.invokevirtual 87, 3) := by decide +kernel
theorem dX12_longs_10 : decode cX12_longs 10 = .ok (.iaload, 1) := by decide +kernel
theorem dX12_longs_11 : decode cX12_longs 11 = .ok (.istore_n 2, 1) := by decide +kernel
theorem dX12_longs_12 : decode cX12_longs 12 = .ok (.aload_n 0, 1) := by decide +kernel
theorem dX12_longs_13 : decode cX12_longs 13 = .ok (.getfield 13, 3) := by decide +kernel
theorem dX12_longs_16 : decode cX12_longs 16 = .ok (.aload_n 0, 1) := by decide +kernel
theorem dX12_longs_17 : decode cX12_longs 17 = .ok (.iload_n 1, 1) := by decide +kernel
theorem dX12_longs_18 : decode cX12_longs 18 = .ok (.iconst 1, 1) := by decide +kernel
theorem dX12_longs_19 : decode cX12_longs 19 = .ok (.invokevirtual 87, 3) := by decide +kernel
theorem dX12_longs_22 : decode cX12_longs 22 = .ok (.iaload, 1) := by decide +kernel
theorem dX12_longs_23 : decode cX12_longs 23 = .ok (.istore_n 3, 1) := by decide +kernel
theorem dX12_longs_24 : decode cX12_longs 24 = .ok (.aload_n 0, 1) := by decide +kernel
theorem dX12_longs_25 : decode cX12_longs 25 = .ok (.getfield 13, 3) := by decide +kernel
theorem dX12_longs_28 : decode cX12_longs 28 = .ok (.aload_n 0, 1) := by decide +kernel
theorem dX12_longs_29 : decode cX12_longs 29 = .ok (.iload_n 1, 1) := by decide +kernel
theorem dX12_longs_30 : decode cX12_longs 30 = .ok (.iconst 2, 1) := by decide +kernel
theorem dX12_longs_31 : decode cX12_longs 31 = .ok (.invokevirtual 87, 3) := by decide +kernel
theorem dX12_longs_34 : decode cX12_longs 34 = .ok (.iaload, 1) := by decide +kernel
theorem dX12_longs_35 : decode cX12_longs 35 = .ok (.istore 4, 2) := by decide +kernel
theorem dX12_longs_37 : decode cX12_longs 37 = .ok (.aload_n 0, 1) := by decide +kernel
theorem dX12_longs_38 : decode cX12_longs 38 = .ok (.getfield 17, 3) := by decide +kernel
theorem dX12_longs_41 : decode cX12_longs 41 = .ok (.aload_n 0, 1) := by decide +kernel
theorem dX12_longs_42 : decode cX12_longs 42 = .ok (.aload_n 0, 1) := by decide +kernel
theorem dX12_longs_43 : decode cX12_longs 43 = .ok (.getfield 35, 3) := by decide +kernel
theorem dX12_longs_46 : decode cX12_longs 46 = .ok (.iconst 0, 1) := by decide +kernel
theorem dX12_longs_47 : decode cX12_longs 47 = .ok (.iaload, 1) := by decide +kernel
theorem dX12_longs_48 : decode cX12_longs 48 = .ok (.aload_n 0, 1) := by decide +kernel
theorem dX12_longs_49 : decode cX12_longs 49 = .ok (.getfield 35, 3) := by decide +kernel
theorem dX12_longs_52 : decode cX12_longs 52 = .ok (.iconst 1, 1) := by decide +kernel
theorem dX12_longs_53 : decode cX12_longs 53 = .ok (.iaload, 1) := by decide +kernel
theorem dX12_longs_54 : decode cX12_longs 54 = .ok (.aload_n 0, 1) := by decide +kernel
theorem dX12_longs_55 : decode cX12_longs 55 = .ok (.getfield 35, 3) := by decide +kernel
theorem dX12_longs_58 : decode cX12_longs 58 = .ok (.iconst 2, 1) := by decide +kernel
theorem dX12_longs_59 : decode cX12_longs 59 = .ok (.iaload, 1) := by decide +kernel
theorem dX12_longs_60 : decode cX12_longs 60 = .ok (.iload_n 2, 1) := by decide +kernel
theorem dX12_longs_61 : decode cX12_longs 61 = .ok (.iload_n 3, 1) := by decide +kernel
theorem dX12_longs_62 : decode cX12_longs 62 = .ok (.iload 4, 2) := by decide +kernel
theorem dX12_longs_64 : decode cX12_longs 64 = .ok (.invokevirtual 132, 3) := by decide +kernel
theorem dX12_longs_67 : decode cX12_longs 67 = .ok (.imul, 1) := by decide +kernel
theorem dX12_longs_68 : decode cX12_longs 68 = .ok (.istore 5, 2) := by decide +kernel
theorem dX12_longs_70 : decode cX12_longs 70 = .ok (.iconst 0, 1) := by decide +kernel
theorem dX12_longs_71 : decode cX12_longs 71 = .ok (.istore 6, 2) := by decide +kernel
theorem dX12_longs_73 : decode cX12_longs 73 = .ok (.iload 6, 2) := by decide +kernel
theorem dX12_longs_75 : decode cX12_longs 75 = .ok (.aload_n 0, 1) := by decide +kernel
theorem dX12_longs_76 : decode cX12_longs 76 = .ok (.getfield 17, 3) := by decide +kernel
theorem dX12_longs_79 : decode cX12_longs 79 = .ok (.if_icmp .ge 47, 3) := by decide +kernel
theorem dX12_longs_82 : decode cX12_longs 82 = .ok (.iconst 0, 1) := by decide +kernel
theorem dX12_longs_83 : decode cX12_longs 83 = .ok (.istore 7, 2) := by decide +kernel
theorem dX12_longs_85 : decode cX12_longs 85 = .ok (.iload 7, 2) := by decide +kernel
theorem dX12_longs_87 : decode cX12_longs 87 = .ok (.iload 6, 2) := by decide +kernel
theorem dX12_longs_89 : decode cX12_longs 89 = .ok (.if_icmp .ge 31, 3) := by decide +kernel
theorem dX12_longs_92 : decode cX12_longs 92 = .ok (.iload 5, 2) := by decide +kernel
theorem dX12_longs_94 : decode cX12_longs 94 = .ok (.aload_n 0, 1) := by decide +kernel
theorem dX12_longs_95 : decode cX12_longs 95 = .ok (.getfield 35, 3) := by decide +kernel
theorem dX12_longs_98 : decode cX12_longs 98 = .ok (.iload 6, 2) := by decide +kernel
theorem dX12_longs_100 : decode cX12_longs 100 = .ok (.iaload, 1) := by decide +kernel
theorem dX12_longs_101 : decode cX12_longs 101 = .ok (.aload_n 0, 1) := by decide +kernel
theorem dX12_longs_102 : decode cX12_longs 102 = .ok (.getfield 35, 3) := by decide +kernel
theorem dX12_longs_105 : decode cX12_longs 105 = .ok (.iload 7, 2) := by decide +kernel
theorem dX12_longs_107 : decode cX12_longs 107 = .ok (.iaload, 1) := by decide +kernel
theorem dX12_longs_108 : decode cX12_longs 108 = .ok (.invokestatic 95, 3) := by decide +kernel
theorem dX12_longs_111 : decode cX12_longs 111 = .ok (.iadd, 1) := by decide +kernel
theorem dX12_longs_112 : decode cX12_longs 112 = .ok (.istore 5, 2) := by decide +kernel
theorem dX12_longs_114 : decode cX12_longs 114 = .ok (.iinc 7 1, 3) := by decide +kernel
theorem dX12_longs_117 : decode cX12_longs 117 = .ok (.goto (-32), 3) := by decide +kernel
theorem dX12_longs_120 : decode cX12_longs 120 = .ok (.iinc 6 1, 3) := by decide +kernel
theorem dX12_longs_123 : decode cX12_longs 123 = .ok (.goto (-50), 3) := by decide +kernel
theorem dX12_longs_126 : decode cX12_longs 126 = .ok (.iload 5, 2) := by decide +kernel
theorem dX12_longs_128 : decode cX12_longs 128 = .ok (.ireturn, 1) := by decide +kernel
theorem dX12_standingAt_0 : decode cX12_standingAt 0 = .ok (.aload_n 0, 1) := by decide +kernel
theorem dX12_standingAt_1 : decode cX12_standingAt 1 = .ok (.invokevirtual 105, 3) := by decide +kernel
theorem dX12_standingAt_4 : decode cX12_standingAt 4 = .ok (.istore_n 2, 1) := by decide +kernel
theorem dX12_standingAt_5 : decode cX12_standingAt 5 = .ok (.iconst 0, 1) := by decide +kernel
theorem dX12_standingAt_6 : decode cX12_standingAt 6 = .ok (.istore_n 3, 1) := by decide +kernel
theorem dX12_standingAt_7 : decode cX12_standingAt 7 = .ok (.iload_n 3, 1) := by decide +kernel
theorem dX12_standingAt_8 : decode cX12_standingAt 8 = .ok (.iload_n 1, 1) := by decide +kernel
theorem dX12_standingAt_9 : decode cX12_standingAt 9 = .ok (.if_icmp .ge 27, 3) := by decide +kernel
theorem dX12_standingAt_12 : decode cX12_standingAt 12 = .ok (.aload_n 0, 1) := by decide +kernel
theorem dX12_standingAt_13 : decode cX12_standingAt 13 = .ok (.iload_n 2, 1) := by decide +kernel
theorem dX12_standingAt_14 : decode cX12_standingAt 14 = .ok (.aload_n 0, 1) := by decide +kernel
theorem dX12_standingAt_15 : decode cX12_standingAt 15 = .ok (.getfield 32, 3) := by decide +kernel
theorem dX12_standingAt_18 : decode cX12_standingAt 18 = .ok (.iload_n 3, 1) := by decide +kernel
theorem dX12_standingAt_19 : decode cX12_standingAt 19 = .ok (.iaload, 1) := by decide +kernel
theorem dX12_standingAt_20 : decode cX12_standingAt 20 = .ok (.aload_n 0, 1) := by decide +kernel
theorem dX12_standingAt_21 : decode cX12_standingAt 21 = .ok (.getfield 26, 3) := by decide +kernel
theorem dX12_standingAt_24 : decode cX12_standingAt 24 = .ok (.iload_n 3, 1) := by decide +kernel
theorem dX12_standingAt_25 : decode cX12_standingAt 25 = .ok (.iaload, 1) := by decide +kernel
theorem dX12_standingAt_26 : decode cX12_standingAt 26 = .ok (.invokevirtual 91, 3) := by decide +kernel
theorem dX12_standingAt_29 : decode cX12_standingAt 29 = .ok (.istore_n 2, 1) := by decide +kernel
theorem dX12_standingAt_30 : decode cX12_standingAt 30 = .ok (.iinc 3 1, 3) := by decide +kernel
theorem dX12_standingAt_33 : decode cX12_standingAt 33 = .ok (.goto (-26), 3) := by decide +kernel
theorem dX12_standingAt_36 : decode cX12_standingAt 36 = .ok (.iload_n 2, 1) := by decide +kernel
theorem dX12_standingAt_37 : decode cX12_standingAt 37 = .ok (.ireturn, 1) := by decide +kernel
theorem dX12_longing_0 : decode cX12_longing 0 = .ok (.iload_n 1, 1) := by decide +kernel
theorem dX12_longing_1 : decode cX12_longing 1 = .ok (.iconst 0, 1) := by decide +kernel
theorem dX12_longing_2 : decode cX12_longing 2 = .ok (.bipush 40, 2) := by decide +kernel
theorem dX12_longing_4 : decode cX12_longing 4 = .ok (.invokestatic 69, 3) := by decide +kernel
theorem dX12_longing_7 : decode cX12_longing 7 = .ok (.ifCond .ne 6, 3) := by decide +kernel
theorem dX12_longing_10 : decode cX12_longing 10 = .ok (.bipush (-2), 2) := by decide +kernel
theorem dX12_longing_12 : decode cX12_longing 12 = .ok (.ireturn, 1) := by decide +kernel
theorem dX12_longing_13 : decode cX12_longing 13 = .ok (.aload_n 0, 1) := by decide +kernel
theorem dX12_longing_14 : decode cX12_longing 14 = .ok (.invokevirtual 83, 3) := by decide +kernel
theorem dX12_longing_17 : decode cX12_longing 17 = .ok (.ifCond .ne 6, 3) := by decide +kernel
theorem dX12_longing_20 : decode cX12_longing 20 = .ok (.bipush (-11), 2) := by decide +kernel
theorem dX12_longing_22 : decode cX12_longing 22 = .ok (.ireturn, 1) := by decide +kernel
theorem dX12_longing_23 : decode cX12_longing 23 = .ok (.aload_n 0, 1) := by decide +kernel
theorem dX12_longing_24 : decode cX12_longing 24 = .ok (.invokevirtual 109, 3) := by decide +kernel
theorem dX12_longing_27 : decode cX12_longing 27 = .ok (.aload_n 0, 1) := by decide +kernel
theorem dX12_longing_28 : decode cX12_longing 28 = .ok (.iconst 1, 1) := by decide +kernel
theorem dX12_longing_29 : decode cX12_longing 29 = .ok (.iload_n 1, 1) := by decide +kernel
theorem dX12_longing_30 : decode cX12_longing 30 = .ok (.invokevirtual 177, 3) := by decide +kernel
theorem dX12_longing_33 : decode cX12_longing 33 = .ok (.aload_n 0, 1) := by decide +kernel
theorem dX12_longing_34 : decode cX12_longing 34 = .ok (.aload_n 0, 1) := by decide +kernel
theorem dX12_longing_35 : decode cX12_longing 35 = .ok (.aload_n 0, 1) := by decide +kernel
theorem dX12_longing_36 : decode cX12_longing 36 = .ok (.iload_n 1, 1) := by decide +kernel
theorem dX12_longing_37 : decode cX12_longing 37 = .ok (.invokevirtual 158, 3) := by decide +kernel
theorem dX12_longing_40 : decode cX12_longing 40 = .ok (.invokevirtual 195, 3) := by decide +kernel
theorem dX12_longing_43 : decode cX12_longing 43 = .ok (.invokevirtual 198, 3) := by decide +kernel
theorem dX12_longing_46 : decode cX12_longing 46 = .ok (.ireturn, 1) := by decide +kernel
theorem dX12_paysNot_0 : decode cX12_paysNot 0 = .ok (.aload_n 0, 1) := by decide +kernel
theorem dX12_paysNot_1 : decode cX12_paysNot 1 = .ok (.invokevirtual 109, 3) := by decide +kernel
theorem dX12_paysNot_4 : decode cX12_paysNot 4 = .ok (.aload_n 0, 1) := by decide +kernel
theorem dX12_paysNot_5 : decode cX12_paysNot 5 = .ok (.invokevirtual 153, 3) := by decide +kernel
theorem dX12_paysNot_8 : decode cX12_paysNot 8 = .ok (.aload_n 0, 1) := by decide +kernel
theorem dX12_paysNot_9 : decode cX12_paysNot 9 = .ok (.invokevirtual 105, 3) := by decide +kernel
theorem dX12_paysNot_12 : decode cX12_paysNot 12 = .ok (.istore_n 1, 1) := by decide +kernel
theorem dX12_paysNot_13 : decode cX12_paysNot 13 = .ok (.aload_n 0, 1) := by decide +kernel
theorem dX12_paysNot_14 : decode cX12_paysNot 14 = .ok (.iload_n 1, 1) := by decide +kernel
theorem dX12_paysNot_15 : decode cX12_paysNot 15 = .ok (.invokevirtual 198, 3) := by decide +kernel
theorem dX12_paysNot_18 : decode cX12_paysNot 18 = .ok (.istore_n 2, 1) := by decide +kernel
theorem dX12_paysNot_19 : decode cX12_paysNot 19 = .ok (.iconst 0, 1) := by decide +kernel
theorem dX12_paysNot_20 : decode cX12_paysNot 20 = .ok (.istore_n 3, 1) := by decide +kernel
theorem dX12_paysNot_21 : decode cX12_paysNot 21 = .ok (.iload_n 3, 1) := by decide +kernel
theorem dX12_paysNot_22 : decode cX12_paysNot 22 = .ok (.aload_n 0, 1) := by decide +kernel
theorem dX12_paysNot_23 : decode cX12_paysNot 23 = .ok (.getfield 77, 3) := by decide +kernel
theorem dX12_paysNot_26 : decode cX12_paysNot 26 = .ok (.if_icmp .ge 92, 3) := by decide +kernel
theorem dX12_paysNot_29 : decode cX12_paysNot 29 = .ok (.aload_n 0, 1) := by decide +kernel
theorem dX12_paysNot_30 : decode cX12_paysNot 30 = .ok (.getfield 115, 3) := by decide +kernel
theorem dX12_paysNot_33 : decode cX12_paysNot 33 = .ok (.istore 4, 2) := by decide +kernel
theorem dX12_paysNot_35 : decode cX12_paysNot 35 = .ok (.aload_n 0, 1) := by decide +kernel
theorem dX12_paysNot_36 : decode cX12_paysNot 36 = .ok (.iconst 1, 1) := by decide +kernel
theorem dX12_paysNot_37 : decode cX12_paysNot 37 = .ok (.iload_n 3, 1) := by decide +kernel
theorem dX12_paysNot_38 : decode cX12_paysNot 38 = .ok (.invokevirtual 161, 3) := by decide +kernel
theorem dX12_paysNot_41 : decode cX12_paysNot 41 = .ok (.aload_n 0, 1) := by decide +kernel
theorem dX12_paysNot_42 : decode cX12_paysNot 42 = .ok (.iload_n 1, 1) := by decide +kernel
theorem dX12_paysNot_43 : decode cX12_paysNot 43 = .ok (.aload_n 0, 1) := by decide +kernel
theorem dX12_paysNot_44 : decode cX12_paysNot 44 = .ok (.getfield 32, 3) := by decide +kernel
theorem dX12_paysNot_47 : decode cX12_paysNot 47 = .ok (.iload_n 3, 1) := by decide +kernel
theorem dX12_paysNot_48 : decode cX12_paysNot 48 = .ok (.iaload, 1) := by decide +kernel
theorem dX12_paysNot_49 : decode cX12_paysNot 49 = .ok (.aload_n 0, 1) := by decide +kernel
theorem dX12_paysNot_50 : decode cX12_paysNot 50 = .ok (.getfield 26, 3) := by decide +kernel
theorem dX12_paysNot_53 : decode cX12_paysNot 53 = .ok (.iload_n 3, 1) := by decide +kernel
theorem dX12_paysNot_54 : decode cX12_paysNot 54 = .ok (.iaload, 1) := by decide +kernel
theorem dX12_paysNot_55 : decode cX12_paysNot 55 = .ok (.invokevirtual 102, 3) := by decide +kernel
theorem dX12_paysNot_58 : decode cX12_paysNot 58 = .ok (.istore 5, 2) := by decide +kernel
theorem dX12_paysNot_60 : decode cX12_paysNot 60 = .ok (.aload_n 0, 1) := by decide +kernel
theorem dX12_paysNot_61 : decode cX12_paysNot 61 = .ok (.iload_n 1, 1) := by decide +kernel
theorem dX12_paysNot_62 : decode cX12_paysNot 62 = .ok (.aload_n 0, 1) := by decide +kernel
theorem dX12_paysNot_63 : decode cX12_paysNot 63 = .ok (.getfield 32, 3) := by decide +kernel
theorem dX12_paysNot_66 : decode cX12_paysNot 66 = .ok (.iload_n 3, 1) := by decide +kernel
theorem dX12_paysNot_67 : decode cX12_paysNot 67 = .ok (.iaload, 1) := by decide +kernel
theorem dX12_paysNot_68 : decode cX12_paysNot 68 = .ok (.aload_n 0, 1) := by decide +kernel
theorem dX12_paysNot_69 : decode cX12_paysNot 69 = .ok (.getfield 26, 3) := by decide +kernel
theorem dX12_paysNot_72 : decode cX12_paysNot 72 = .ok (.iload_n 3, 1) := by decide +kernel
theorem dX12_paysNot_73 : decode cX12_paysNot 73 = .ok (.iaload, 1) := by decide +kernel
theorem dX12_paysNot_74 : decode cX12_paysNot 74 = .ok (.invokevirtual 91, 3) := by decide +kernel
theorem dX12_paysNot_77 : decode cX12_paysNot 77 = .ok (.istore_n 1, 1) := by decide +kernel
theorem dX12_paysNot_78 : decode cX12_paysNot 78 = .ok (.aload_n 0, 1) := by decide +kernel
theorem dX12_paysNot_79 : decode cX12_paysNot 79 = .ok (.iload_n 1, 1) := by decide +kernel
theorem dX12_paysNot_80 : decode cX12_paysNot 80 = .ok (.invokevirtual 198, 3) := by decide +kernel
theorem dX12_paysNot_83 : decode cX12_paysNot 83 = .ok (.istore 6, 2) := by decide +kernel
theorem dX12_paysNot_85 : decode cX12_paysNot 85 = .ok (.aload_n 0, 1) := by decide +kernel
theorem dX12_paysNot_86 : decode cX12_paysNot 86 = .ok (.getfield 115, 3) := by decide +kernel
theorem dX12_paysNot_89 : decode cX12_paysNot 89 = .ok (.iload 4, 2) := by decide +kernel
theorem dX12_paysNot_91 : decode cX12_paysNot 91 = .ok (.isub, 1) := by decide +kernel
theorem dX12_paysNot_92 : decode cX12_paysNot 92 = .ok (.iload 6, 2) := by decide +kernel
theorem dX12_paysNot_94 : decode cX12_paysNot 94 = .ok (.iadd, 1) := by decide +kernel
theorem dX12_paysNot_95 : decode cX12_paysNot 95 = .ok (.iload_n 2, 1) := by decide +kernel
theorem dX12_paysNot_96 : decode cX12_paysNot 96 = .ok (.isub, 1) := by decide +kernel
theorem dX12_paysNot_97 : decode cX12_paysNot 97 = .ok (.aload_n 0, 1) := by decide +kernel
theorem dX12_paysNot_98 : decode cX12_paysNot 98 = .ok (.getfield 17, 3) := by decide +kernel
theorem dX12_paysNot_101 : decode cX12_paysNot 101 = .ok (.iload 5, 2) := by decide +kernel
theorem dX12_paysNot_103 : decode cX12_paysNot 103 = .ok (.imul, 1) := by decide +kernel
theorem dX12_paysNot_104 : decode cX12_paysNot 104 = .ok (.if_icmp .le 5, 3) := by decide +kernel
theorem dX12_paysNot_107 : decode cX12_paysNot 107 = .ok (.iload_n 3, 1) := by decide +kernel
theorem dX12_paysNot_108 : decode cX12_paysNot 108 = .ok (.ireturn, 1) := by decide +kernel
theorem dX12_paysNot_109 : decode cX12_paysNot 109 = .ok (.iload 6, 2) := by decide +kernel
theorem dX12_paysNot_111 : decode cX12_paysNot 111 = .ok (.istore_n 2, 1) := by decide +kernel
theorem dX12_paysNot_112 : decode cX12_paysNot 112 = .ok (.iinc 3 1, 3) := by decide +kernel
theorem dX12_paysNot_115 : decode cX12_paysNot 115 = .ok (.goto (-94), 3) := by decide +kernel
theorem dX12_paysNot_118 : decode cX12_paysNot 118 = .ok (.iconst (-1), 1) := by decide +kernel
theorem dX12_paysNot_119 : decode cX12_paysNot 119 = .ok (.ireturn, 1) := by decide +kernel
theorem dX12_pays_0 : decode cX12_pays 0 = .ok (.aload_n 0, 1) := by decide +kernel
theorem dX12_pays_1 : decode cX12_pays 1 = .ok (.invokevirtual 83, 3) := by decide +kernel
theorem dX12_pays_4 : decode cX12_pays 4 = .ok (.ifCond .eq 10, 3) := by decide +kernel
theorem dX12_pays_7 : decode cX12_pays 7 = .ok (.aload_n 0, 1) := by decide +kernel
theorem dX12_pays_8 : decode cX12_pays 8 = .ok (.invokevirtual 201, 3) := by decide +kernel
theorem dX12_pays_11 : decode cX12_pays 11 = .ok (.goto 5, 3) := by decide +kernel
theorem dX12_pays_14 : decode cX12_pays 14 = .ok (.bipush (-11), 2) := by decide +kernel
theorem dX12_pays_16 : decode cX12_pays 16 = .ok (.ireturn, 1) := by decide +kernel
theorem dX12_meets_0 : decode cX12_meets 0 = .ok (.aload_n 0, 1) := by decide +kernel
theorem dX12_meets_1 : decode cX12_meets 1 = .ok (.iload_n 1, 1) := by decide +kernel
theorem dX12_meets_2 : decode cX12_meets 2 = .ok (.putfield 80, 3) := by decide +kernel
theorem dX12_meets_5 : decode cX12_meets 5 = .ok (.bipush (-10), 2) := by decide +kernel
theorem dX12_meets_7 : decode cX12_meets 7 = .ok (.iload_n 1, 1) := by decide +kernel
theorem dX12_meets_8 : decode cX12_meets 8 = .ok (.isub, 1) := by decide +kernel
theorem dX12_meets_9 : decode cX12_meets 9 = .ok (.ireturn, 1) := by decide +kernel
theorem dX12_isSheet_0 : decode cX12_isSheet 0 = .ok (.iload_n 0, 1) := by decide +kernel
theorem dX12_isSheet_1 : decode cX12_isSheet 1 = .ok (.iconst 0, 1) := by decide +kernel
theorem dX12_isSheet_2 : decode cX12_isSheet 2 = .ok (.iconst 3, 1) := by decide +kernel
theorem dX12_isSheet_3 : decode cX12_isSheet 3 = .ok (.invokestatic 69, 3) := by decide +kernel
theorem dX12_isSheet_6 : decode cX12_isSheet 6 = .ok (.ireturn, 1) := by decide +kernel
theorem dX12_sheet_0 : decode cX12_sheet 0 = .ok (.iload_n 1, 1) := by decide +kernel
theorem dX12_sheet_1 : decode cX12_sheet 1 = .ok (.invokestatic 204, 3) := by decide +kernel
theorem dX12_sheet_4 : decode cX12_sheet 4 = .ok (.ifCond .eq 18, 3) := by decide +kernel
theorem dX12_sheet_7 : decode cX12_sheet 7 = .ok (.iload_n 2, 1) := by decide +kernel
theorem dX12_sheet_8 : decode cX12_sheet 8 = .ok (.iconst 0, 1) := by decide +kernel
theorem dX12_sheet_9 : decode cX12_sheet 9 = .ok (.iconst 2, 1) := by decide +kernel
theorem dX12_sheet_10 : decode cX12_sheet 10 = .ok (.invokestatic 69, 3) := by decide +kernel
theorem dX12_sheet_13 : decode cX12_sheet 13 = .ok (.ifCond .eq 9, 3) := by decide +kernel
theorem dX12_sheet_16 : decode cX12_sheet 16 = .ok (.iload_n 3, 1) := by decide +kernel
theorem dX12_sheet_17 : decode cX12_sheet 17 = .ok (.bipush 40, 2) := by decide +kernel
theorem dX12_sheet_19 : decode cX12_sheet 19 = .ok (.if_icmp .le 6, 3) := by decide +kernel
theorem dX12_sheet_22 : decode cX12_sheet 22 = .ok (.bipush (-2), 2) := by decide +kernel
theorem dX12_sheet_24 : decode cX12_sheet 24 = .ok (.ireturn, 1) := by decide +kernel
theorem dX12_sheet_25 : decode cX12_sheet 25 = .ok (.iload_n 3, 1) := by decide +kernel
theorem dX12_sheet_26 : decode cX12_sheet 26 = .ok (.ifCond .ge 9, 3) := by decide +kernel
theorem dX12_sheet_29 : decode cX12_sheet 29 = .ok (.aload_n 0, 1) := by decide +kernel
theorem dX12_sheet_30 : decode cX12_sheet 30 = .ok (.iconst 5, 1) := by decide +kernel
theorem dX12_sheet_31 : decode cX12_sheet 31 = .ok (.invokevirtual 207, 3) := by decide +kernel
theorem dX12_sheet_34 : decode cX12_sheet 34 = .ok (.ireturn, 1) := by decide +kernel
theorem dX12_sheet_35 : decode cX12_sheet 35 = .ok (.aload_n 0, 1) := by decide +kernel
theorem dX12_sheet_36 : decode cX12_sheet 36 = .ok (.getfield 53, 3) := by decide +kernel
theorem dX12_sheet_39 : decode cX12_sheet 39 = .ok (.iload_n 1, 1) := by decide +kernel
theorem dX12_sheet_40 : decode cX12_sheet 40 = .ok (.iconst 1, 1) := by decide +kernel
theorem dX12_sheet_41 : decode cX12_sheet 41 = .ok (.bastore, 1) := by decide +kernel
theorem dX12_sheet_42 : decode cX12_sheet 42 = .ok (.aload_n 0, 1) := by decide +kernel
theorem dX12_sheet_43 : decode cX12_sheet 43 = .ok (.getfield 57, 3) := by decide +kernel
theorem dX12_sheet_46 : decode cX12_sheet 46 = .ok (.iload_n 1, 1) := by decide +kernel
theorem dX12_sheet_47 : decode cX12_sheet 47 = .ok (.iload_n 2, 1) := by decide +kernel
theorem dX12_sheet_48 : decode cX12_sheet 48 = .ok (.iastore, 1) := by decide +kernel
theorem dX12_sheet_49 : decode cX12_sheet 49 = .ok (.aload_n 0, 1) := by decide +kernel
theorem dX12_sheet_50 : decode cX12_sheet 50 = .ok (.getfield 60, 3) := by decide +kernel
theorem dX12_sheet_53 : decode cX12_sheet 53 = .ok (.iload_n 1, 1) := by decide +kernel
theorem dX12_sheet_54 : decode cX12_sheet 54 = .ok (.iload_n 3, 1) := by decide +kernel
theorem dX12_sheet_55 : decode cX12_sheet 55 = .ok (.iastore, 1) := by decide +kernel
theorem dX12_sheet_56 : decode cX12_sheet 56 = .ok (.iconst 0, 1) := by decide +kernel
theorem dX12_sheet_57 : decode cX12_sheet 57 = .ok (.istore 4, 2) := by decide +kernel
theorem dX12_sheet_59 : decode cX12_sheet 59 = .ok (.iload 4, 2) := by decide +kernel
theorem dX12_sheet_61 : decode cX12_sheet 61 = .ok (.bipush 40, 2) := by decide +kernel
theorem dX12_sheet_63 : decode cX12_sheet 63 = .ok (.if_icmp .ge 22, 3) := by decide +kernel
theorem dX12_sheet_66 : decode cX12_sheet 66 = .ok (.aload_n 0, 1) := by decide +kernel
theorem dX12_sheet_67 : decode cX12_sheet 67 = .ok (.getfield 63, 3) := by decide +kernel
theorem dX12_sheet_70 : decode cX12_sheet 70 = .ok (.bipush 40, 2) := by decide +kernel
theorem dX12_sheet_72 : decode cX12_sheet 72 = .ok (.iload_n 1, 1) := by decide +kernel
theorem dX12_sheet_73 : decode cX12_sheet 73 = .ok (.imul, 1) := by decide +kernel
theorem dX12_sheet_74 : decode cX12_sheet 74 = .ok (.iload 4, 2) := by decide +kernel
theorem dX12_sheet_76 : decode cX12_sheet 76 = .ok (.iadd, 1) := by decide +kernel
theorem dX12_sheet_77 : decode cX12_sheet 77 = .ok (.iconst 0, 1) := by decide +kernel
theorem dX12_sheet_78 : decode cX12_sheet 78 = .ok (.iastore, 1) := by decide +kernel
theorem dX12_sheet_79 : decode cX12_sheet 79 = .ok (.iinc 4 1, 3) := by decide +kernel
theorem dX12_sheet_82 : decode cX12_sheet 82 = .ok (.goto (-23), 3) := by decide +kernel
theorem dX12_sheet_85 : decode cX12_sheet 85 = .ok (.iload_n 3, 1) := by decide +kernel
theorem dX12_sheet_86 : decode cX12_sheet 86 = .ok (.ireturn, 1) := by decide +kernel
theorem dX12_lose_0 : decode cX12_lose 0 = .ok (.iload_n 1, 1) := by decide +kernel
theorem dX12_lose_1 : decode cX12_lose 1 = .ok (.invokestatic 204, 3) := by decide +kernel
theorem dX12_lose_4 : decode cX12_lose 4 = .ok (.ifCond .ne 6, 3) := by decide +kernel
theorem dX12_lose_7 : decode cX12_lose 7 = .ok (.bipush (-2), 2) := by decide +kernel
theorem dX12_lose_9 : decode cX12_lose 9 = .ok (.ireturn, 1) := by decide +kernel
theorem dX12_lose_10 : decode cX12_lose 10 = .ok (.aload_n 0, 1) := by decide +kernel
theorem dX12_lose_11 : decode cX12_lose 11 = .ok (.getfield 53, 3) := by decide +kernel
theorem dX12_lose_14 : decode cX12_lose 14 = .ok (.iload_n 1, 1) := by decide +kernel
theorem dX12_lose_15 : decode cX12_lose 15 = .ok (.baload, 1) := by decide +kernel
theorem dX12_lose_16 : decode cX12_lose 16 = .ok (.ifCond .ne 9, 3) := by decide +kernel
theorem dX12_lose_19 : decode cX12_lose 19 = .ok (.aload_n 0, 1) := by decide +kernel
theorem dX12_lose_20 : decode cX12_lose 20 = .ok (.iconst 1, 1) := by decide +kernel
theorem dX12_lose_21 : decode cX12_lose 21 = .ok (.invokevirtual 207, 3) := by decide +kernel
theorem dX12_lose_24 : decode cX12_lose 24 = .ok (.ireturn, 1) := by decide +kernel
theorem dX12_lose_25 : decode cX12_lose 25 = .ok (.aload_n 0, 1) := by decide +kernel
theorem dX12_lose_26 : decode cX12_lose 26 = .ok (.getfield 53, 3) := by decide +kernel
theorem dX12_lose_29 : decode cX12_lose 29 = .ok (.iload_n 1, 1) := by decide +kernel
theorem dX12_lose_30 : decode cX12_lose 30 = .ok (.iconst 0, 1) := by decide +kernel
theorem dX12_lose_31 : decode cX12_lose 31 = .ok (.bastore, 1) := by decide +kernel
theorem dX12_lose_32 : decode cX12_lose 32 = .ok (.aload_n 0, 1) := by decide +kernel
theorem dX12_lose_33 : decode cX12_lose 33 = .ok (.getfield 60, 3) := by decide +kernel
theorem dX12_lose_36 : decode cX12_lose 36 = .ok (.iload_n 1, 1) := by decide +kernel
theorem dX12_lose_37 : decode cX12_lose 37 = .ok (.iaload, 1) := by decide +kernel
theorem dX12_lose_38 : decode cX12_lose 38 = .ok (.ireturn, 1) := by decide +kernel
theorem dX12_lacks_0 : decode cX12_lacks 0 = .ok (.aload_n 0, 1) := by decide +kernel
theorem dX12_lacks_1 : decode cX12_lacks 1 = .ok (.getfield 53, 3) := by decide +kernel
theorem dX12_lacks_4 : decode cX12_lacks 4 = .ok (.iload_n 1, 1) := by decide +kernel
theorem dX12_lacks_5 : decode cX12_lacks 5 = .ok (.baload, 1) := by decide +kernel
theorem dX12_lacks_6 : decode cX12_lacks 6 = .ok (.ifCond .ne 7, 3) := by decide +kernel
theorem dX12_lacks_9 : decode cX12_lacks 9 = .ok (.iconst 1, 1) := by decide +kernel
theorem dX12_lacks_10 : decode cX12_lacks 10 = .ok (.goto 38, 3) := by decide +kernel
theorem dX12_lacks_13 : decode cX12_lacks 13 = .ok (.aload_n 0, 1) := by decide +kernel
theorem dX12_lacks_14 : decode cX12_lacks 14 = .ok (.getfield 57, 3) := by decide +kernel
theorem dX12_lacks_17 : decode cX12_lacks 17 = .ok (.iload_n 1, 1) := by decide +kernel
theorem dX12_lacks_18 : decode cX12_lacks 18 = .ok (.iaload, 1) := by decide +kernel
theorem dX12_lacks_19 : decode cX12_lacks 19 = .ok (.iload_n 2, 1) := by decide +kernel
theorem dX12_lacks_20 : decode cX12_lacks 20 = .ok (.if_icmp .eq 7, 3) := by decide +kernel
theorem dX12_lacks_23 : decode cX12_lacks 23 = .ok (.iconst 3, 1) := by decide +kernel
theorem dX12_lacks_24 : decode cX12_lacks 24 = .ok (.goto 24, 3) := by decide +kernel
theorem dX12_lacks_27 : decode cX12_lacks 27 = .ok (.iload_n 3, 1) := by decide +kernel
theorem dX12_lacks_28 : decode cX12_lacks 28 = .ok (.iconst 0, 1) := by decide +kernel
theorem dX12_lacks_29 : decode cX12_lacks 29 = .ok (.aload_n 0, 1) := by decide +kernel
theorem dX12_lacks_30 : decode cX12_lacks 30 = .ok (.getfield 60, 3) := by decide +kernel
theorem dX12_lacks_33 : decode cX12_lacks 33 = .ok (.iload_n 1, 1) := by decide +kernel
theorem dX12_lacks_34 : decode cX12_lacks 34 = .ok (.iaload, 1) := by decide +kernel
theorem dX12_lacks_35 : decode cX12_lacks 35 = .ok (.iconst 1, 1) := by decide +kernel
theorem dX12_lacks_36 : decode cX12_lacks 36 = .ok (.isub, 1) := by decide +kernel
theorem dX12_lacks_37 : decode cX12_lacks 37 = .ok (.invokestatic 69, 3) := by decide +kernel
theorem dX12_lacks_40 : decode cX12_lacks 40 = .ok (.ifCond .eq 7, 3) := by decide +kernel
theorem dX12_lacks_43 : decode cX12_lacks 43 = .ok (.iconst 0, 1) := by decide +kernel
theorem dX12_lacks_44 : decode cX12_lacks 44 = .ok (.goto 4, 3) := by decide +kernel
theorem dX12_lacks_47 : decode cX12_lacks 47 = .ok (.iconst 2, 1) := by decide +kernel
theorem dX12_lacks_48 : decode cX12_lacks 48 = .ok (.ireturn, 1) := by decide +kernel
theorem dX12_put_0 : decode cX12_put 0 = .ok (.iload_n 1, 1) := by decide +kernel
theorem dX12_put_1 : decode cX12_put 1 = .ok (.invokestatic 204, 3) := by decide +kernel
theorem dX12_put_4 : decode cX12_put 4 = .ok (.ifCond .eq 12, 3) := by decide +kernel
theorem dX12_put_7 : decode cX12_put 7 = .ok (.iload_n 2, 1) := by decide +kernel
theorem dX12_put_8 : decode cX12_put 8 = .ok (.iconst 0, 1) := by decide +kernel
theorem dX12_put_9 : decode cX12_put 9 = .ok (.iconst 2, 1) := by decide +kernel
theorem dX12_put_10 : decode cX12_put 10 = .ok (.invokestatic 69, 3) := by decide +kernel
theorem dX12_put_13 : decode cX12_put 13 = .ok (.ifCond .ne 6, 3) := by decide +kernel
theorem dX12_put_16 : decode cX12_put 16 = .ok (.bipush (-2), 2) := by decide +kernel
theorem dX12_put_18 : decode cX12_put 18 = .ok (.ireturn, 1) := by decide +kernel
theorem dX12_put_19 : decode cX12_put 19 = .ok (.aload_n 0, 1) := by decide +kernel
theorem dX12_put_20 : decode cX12_put 20 = .ok (.iload_n 1, 1) := by decide +kernel
theorem dX12_put_21 : decode cX12_put 21 = .ok (.iload_n 2, 1) := by decide +kernel
theorem dX12_put_22 : decode cX12_put 22 = .ok (.iload_n 3, 1) := by decide +kernel
theorem dX12_put_23 : decode cX12_put 23 = .ok (.invokevirtual 210, 3) := by decide +kernel
theorem dX12_put_26 : decode cX12_put 26 = .ok (.istore 5, 2) := by decide +kernel
theorem dX12_put_28 : decode cX12_put 28 = .ok (.iload 5, 2) := by decide +kernel
theorem dX12_put_30 : decode cX12_put 30 = .ok (.ifCond .le 10, 3) := by decide +kernel
theorem dX12_put_33 : decode cX12_put 33 = .ok (.aload_n 0, 1) := by decide +kernel
theorem dX12_put_34 : decode cX12_put 34 = .ok (.iload 5, 2) := by decide +kernel
theorem dX12_put_36 : decode cX12_put 36 = .ok (.invokevirtual 207, 3) := by decide +kernel
theorem dX12_put_39 : decode cX12_put 39 = .ok (.ireturn, 1) := by decide +kernel
theorem dX12_put_40 : decode cX12_put 40 = .ok (.aload_n 0, 1) := by decide +kernel
theorem dX12_put_41 : decode cX12_put 41 = .ok (.getfield 63, 3) := by decide +kernel
theorem dX12_put_44 : decode cX12_put 44 = .ok (.bipush 40, 2) := by decide +kernel
theorem dX12_put_46 : decode cX12_put 46 = .ok (.iload_n 1, 1) := by decide +kernel
theorem dX12_put_47 : decode cX12_put 47 = .ok (.imul, 1) := by decide +kernel
theorem dX12_put_48 : decode cX12_put 48 = .ok (.iload_n 3, 1) := by decide +kernel
theorem dX12_put_49 : decode cX12_put 49 = .ok (.iadd, 1) := by decide +kernel
theorem dX12_put_50 : decode cX12_put 50 = .ok (.iload_n 2, 1) := by decide +kernel
theorem dX12_put_51 : decode cX12_put 51 = .ok (.ifCond .ne 9, 3) := by decide +kernel
theorem dX12_put_54 : decode cX12_put 54 = .ok (.iload 4, 2) := by decide +kernel
theorem dX12_put_56 : decode cX12_put 56 = .ok (.i2b, 1) := by decide +kernel
theorem dX12_put_57 : decode cX12_put 57 = .ok (.goto 16, 3) := by decide +kernel
theorem dX12_put_60 : decode cX12_put 60 = .ok (.iload_n 2, 1) := by decide +kernel
theorem dX12_put_61 : decode cX12_put 61 = .ok (.iconst 1, 1) := by decide +kernel
theorem dX12_put_62 : decode cX12_put 62 = .ok (.if_icmp .ne 9, 3) := by decide +kernel
theorem dX12_put_65 : decode cX12_put 65 = .ok (.iload 4, 2) := by decide +kernel
theorem dX12_put_67 : decode cX12_put 67 = .ok (.i2s, 1) := by decide +kernel
theorem dX12_put_68 : decode cX12_put 68 = .ok (.goto 5, 3) := by decide +kernel
theorem dX12_put_71 : decode cX12_put 71 = .ok (.iload 4, 2) := by decide +kernel
theorem dX12_put_73 : decode cX12_put 73 = .ok (.iastore, 1) := by decide +kernel
theorem dX12_put_74 : decode cX12_put 74 = .ok (.iconst 1, 1) := by decide +kernel
theorem dX12_put_75 : decode cX12_put 75 = .ok (.ireturn, 1) := by decide +kernel
theorem dX12_get_0 : decode cX12_get 0 = .ok (.iload_n 1, 1) := by decide +kernel
theorem dX12_get_1 : decode cX12_get 1 = .ok (.invokestatic 204, 3) := by decide +kernel
theorem dX12_get_4 : decode cX12_get 4 = .ok (.ifCond .eq 12, 3) := by decide +kernel
theorem dX12_get_7 : decode cX12_get 7 = .ok (.iload_n 2, 1) := by decide +kernel
theorem dX12_get_8 : decode cX12_get 8 = .ok (.iconst 0, 1) := by decide +kernel
theorem dX12_get_9 : decode cX12_get 9 = .ok (.iconst 2, 1) := by decide +kernel
theorem dX12_get_10 : decode cX12_get 10 = .ok (.invokestatic 69, 3) := by decide +kernel
theorem dX12_get_13 : decode cX12_get 13 = .ok (.ifCond .ne 6, 3) := by decide +kernel
theorem dX12_get_16 : decode cX12_get 16 = .ok (.ldc 213, 2) := by decide +kernel
theorem dX12_get_18 : decode cX12_get 18 = .ok (.ireturn, 1) := by decide +kernel
theorem dX12_get_19 : decode cX12_get 19 = .ok (.aload_n 0, 1) := by decide +kernel
theorem dX12_get_20 : decode cX12_get 20 = .ok (.iload_n 1, 1) := by decide +kernel
theorem dX12_get_21 : decode cX12_get 21 = .ok (.iload_n 2, 1) := by decide +kernel
theorem dX12_get_22 : decode cX12_get 22 = .ok (.iload_n 3, 1) := by decide +kernel
theorem dX12_get_23 : decode cX12_get 23 = .ok (.invokevirtual 210, 3) := by decide +kernel
theorem dX12_get_26 : decode cX12_get 26 = .ok (.istore 4, 2) := by decide +kernel
theorem dX12_get_28 : decode cX12_get 28 = .ok (.iload 4, 2) := by decide +kernel
theorem dX12_get_30 : decode cX12_get 30 = .ok (.ifCond .le 12, 3) := by decide +kernel
theorem dX12_get_33 : decode cX12_get 33 = .ok (.aload_n 0, 1) := by decide +kernel
theorem dX12_get_34 : decode cX12_get 34 = .ok (.iload 4, 2) := by decide +kernel
theorem dX12_get_36 : decode cX12_get 36 = .ok (.putfield 80, 3) := by decide +kernel
theorem dX12_get_39 : decode cX12_get 39 = .ok (.ldc 213, 2) := by decide +kernel
theorem dX12_get_41 : decode cX12_get 41 = .ok (.ireturn, 1) := by decide +kernel
theorem dX12_get_42 : decode cX12_get 42 = .ok (.aload_n 0, 1) := by decide +kernel
theorem dX12_get_43 : decode cX12_get 43 = .ok (.getfield 63, 3) := by decide +kernel
theorem dX12_get_46 : decode cX12_get 46 = .ok (.bipush 40, 2) := by decide +kernel
theorem dX12_get_48 : decode cX12_get 48 = .ok (.iload_n 1, 1) := by decide +kernel
theorem dX12_get_49 : decode cX12_get 49 = .ok (.imul, 1) := by decide +kernel
theorem dX12_get_50 : decode cX12_get 50 = .ok (.iload_n 3, 1) := by decide +kernel
theorem dX12_get_51 : decode cX12_get 51 = .ok (.iadd, 1) := by decide +kernel
theorem dX12_get_52 : decode cX12_get 52 = .ok (.iaload, 1) := by decide +kernel
theorem dX12_get_53 : decode cX12_get 53 = .ok (.ireturn, 1) := by decide +kernel
theorem dX12_copy_0 : decode cX12_copy 0 = .ok (.iload_n 1, 1) := by decide +kernel
theorem dX12_copy_1 : decode cX12_copy 1 = .ok (.invokestatic 204, 3) := by decide +kernel
theorem dX12_copy_4 : decode cX12_copy 4 = .ok (.ifCond .eq 10, 3) := by decide +kernel
theorem dX12_copy_7 : decode cX12_copy 7 = .ok (.iload_n 3, 1) := by decide +kernel
theorem dX12_copy_8 : decode cX12_copy 8 = .ok (.invokestatic 204, 3) := by decide +kernel
theorem dX12_copy_11 : decode cX12_copy 11 = .ok (.ifCond .ne 6, 3) := by decide +kernel
theorem dX12_copy_14 : decode cX12_copy 14 = .ok (.bipush (-2), 2) := by decide +kernel
theorem dX12_copy_16 : decode cX12_copy 16 = .ok (.ireturn, 1) := by decide +kernel
theorem dX12_copy_17 : decode cX12_copy 17 = .ok (.aload_n 0, 1) := by decide +kernel
theorem dX12_copy_18 : decode cX12_copy 18 = .ok (.getfield 53, 3) := by decide +kernel
theorem dX12_copy_21 : decode cX12_copy 21 = .ok (.iload_n 1, 1) := by decide +kernel
theorem dX12_copy_22 : decode cX12_copy 22 = .ok (.baload, 1) := by decide +kernel
theorem dX12_copy_23 : decode cX12_copy 23 = .ok (.ifCond .eq 12, 3) := by decide +kernel
theorem dX12_copy_26 : decode cX12_copy 26 = .ok (.aload_n 0, 1) := by decide +kernel
theorem dX12_copy_27 : decode cX12_copy 27 = .ok (.getfield 53, 3) := by decide +kernel
theorem dX12_copy_30 : decode cX12_copy 30 = .ok (.iload_n 3, 1) := by decide +kernel
theorem dX12_copy_31 : decode cX12_copy 31 = .ok (.baload, 1) := by decide +kernel
theorem dX12_copy_32 : decode cX12_copy 32 = .ok (.ifCond .ne 9, 3) := by decide +kernel
theorem dX12_copy_35 : decode cX12_copy 35 = .ok (.aload_n 0, 1) := by decide +kernel
theorem dX12_copy_36 : decode cX12_copy 36 = .ok (.iconst 1, 1) := by decide +kernel
theorem dX12_copy_37 : decode cX12_copy 37 = .ok (.invokevirtual 207, 3) := by decide +kernel
theorem dX12_copy_40 : decode cX12_copy 40 = .ok (.ireturn, 1) := by decide +kernel
theorem dX12_copy_41 : decode cX12_copy 41 = .ok (.aload_n 0, 1) := by decide +kernel
theorem dX12_copy_42 : decode cX12_copy 42 = .ok (.getfield 57, 3) := by decide +kernel
theorem dX12_copy_45 : decode cX12_copy 45 = .ok (.iload_n 1, 1) := by decide +kernel
theorem dX12_copy_46 : decode cX12_copy 46 = .ok (.iaload, 1) := by decide +kernel
theorem dX12_copy_47 : decode cX12_copy 47 = .ok (.aload_n 0, 1) := by decide +kernel
theorem dX12_copy_48 : decode cX12_copy 48 = .ok (.getfield 57, 3) := by decide +kernel
theorem dX12_copy_51 : decode cX12_copy 51 = .ok (.iload_n 3, 1) := by decide +kernel
theorem dX12_copy_52 : decode cX12_copy 52 = .ok (.iaload, 1) := by decide +kernel
theorem dX12_copy_53 : decode cX12_copy 53 = .ok (.if_icmp .eq 9, 3) := by decide +kernel
theorem dX12_copy_56 : decode cX12_copy 56 = .ok (.aload_n 0, 1) := by decide +kernel
theorem dX12_copy_57 : decode cX12_copy 57 = .ok (.iconst 4, 1) := by decide +kernel
theorem dX12_copy_58 : decode cX12_copy 58 = .ok (.invokevirtual 207, 3) := by decide +kernel
theorem dX12_copy_61 : decode cX12_copy 61 = .ok (.ireturn, 1) := by decide +kernel
theorem dX12_copy_62 : decode cX12_copy 62 = .ok (.iload_n 2, 1) := by decide +kernel
theorem dX12_copy_63 : decode cX12_copy 63 = .ok (.ifCond .lt 48, 3) := by decide +kernel
theorem dX12_copy_66 : decode cX12_copy 66 = .ok (.iload 4, 2) := by decide +kernel
theorem dX12_copy_68 : decode cX12_copy 68 = .ok (.ifCond .lt 43, 3) := by decide +kernel
theorem dX12_copy_71 : decode cX12_copy 71 = .ok (.iload 5, 2) := by decide +kernel
theorem dX12_copy_73 : decode cX12_copy 73 = .ok (.ifCond .lt 38, 3) := by decide +kernel
theorem dX12_copy_76 : decode cX12_copy 76 = .ok (.iload_n 2, 1) := by decide +kernel
theorem dX12_copy_77 : decode cX12_copy 77 = .ok (.i2l, 1) := by decide +kernel
theorem dX12_copy_78 : decode cX12_copy 78 = .ok (.iload 5, 2) := by decide +kernel
theorem dX12_copy_80 : decode cX12_copy 80 = .ok (.i2l, 1) := by decide +kernel
theorem dX12_copy_81 : decode cX12_copy 81 = .ok (.ladd, 1) := by decide +kernel
theorem dX12_copy_82 : decode cX12_copy 82 = .ok (.aload_n 0, 1) := by decide +kernel
theorem dX12_copy_83 : decode cX12_copy 83 = .ok (.getfield 60, 3) := by decide +kernel
theorem dX12_copy_86 : decode cX12_copy 86 = .ok (.iload_n 1, 1) := by decide +kernel
theorem dX12_copy_87 : decode cX12_copy 87 = .ok (.iaload, 1) := by decide +kernel
theorem dX12_copy_88 : decode cX12_copy 88 = .ok (.i2l, 1) := by decide +kernel
theorem dX12_copy_89 : decode cX12_copy 89 = .ok (.lcmp, 1) := by decide +kernel
theorem dX12_copy_90 : decode cX12_copy 90 = .ok (.ifCond .gt 21, 3) := by decide +kernel
theorem dX12_copy_93 : decode cX12_copy 93 = .ok (.iload 4, 2) := by decide +kernel
theorem dX12_copy_95 : decode cX12_copy 95 = .ok (.i2l, 1) := by decide +kernel
theorem dX12_copy_96 : decode cX12_copy 96 = .ok (.iload 5, 2) := by decide +kernel
theorem dX12_copy_98 : decode cX12_copy 98 = .ok (.i2l, 1) := by decide +kernel
theorem dX12_copy_99 : decode cX12_copy 99 = .ok (.ladd, 1) := by decide +kernel
theorem dX12_copy_100 : decode cX12_copy 100 = .ok (.aload_n 0, 1) := by decide +kernel
theorem dX12_copy_101 : decode cX12_copy 101 = .ok (.getfield 60, 3) := by decide +kernel
theorem dX12_copy_104 : decode cX12_copy 104 = .ok (.iload_n 3, 1) := by decide +kernel
theorem dX12_copy_105 : decode cX12_copy 105 = .ok (.iaload, 1) := by decide +kernel
theorem dX12_copy_106 : decode cX12_copy 106 = .ok (.i2l, 1) := by decide +kernel
theorem dX12_copy_107 : decode cX12_copy 107 = .ok (.lcmp, 1) := by decide +kernel
theorem dX12_copy_108 : decode cX12_copy 108 = .ok (.ifCond .le 9, 3) := by decide +kernel
theorem dX12_copy_111 : decode cX12_copy 111 = .ok (.aload_n 0, 1) := by decide +kernel
theorem dX12_copy_112 : decode cX12_copy 112 = .ok (.iconst 2, 1) := by decide +kernel
theorem dX12_copy_113 : decode cX12_copy 113 = .ok (.invokevirtual 207, 3) := by decide +kernel
theorem dX12_copy_116 : decode cX12_copy 116 = .ok (.ireturn, 1) := by decide +kernel
theorem dX12_copy_117 : decode cX12_copy 117 = .ok (.iconst 0, 1) := by decide +kernel
theorem dX12_copy_118 : decode cX12_copy 118 = .ok (.istore 6, 2) := by decide +kernel
theorem dX12_copy_120 : decode cX12_copy 120 = .ok (.iload 6, 2) := by decide +kernel
theorem dX12_copy_122 : decode cX12_copy 122 = .ok (.iload 5, 2) := by decide +kernel
theorem dX12_copy_124 : decode cX12_copy 124 = .ok (.if_icmp .ge 30, 3) := by decide +kernel
theorem dX12_copy_127 : decode cX12_copy 127 = .ok (.aload_n 0, 1) := by decide +kernel
theorem dX12_copy_128 : decode cX12_copy 128 = .ok (.getfield 66, 3) := by decide +kernel
theorem dX12_copy_131 : decode cX12_copy 131 = .ok (.iload 6, 2) := by decide +kernel
theorem dX12_copy_133 : decode cX12_copy 133 = .ok (.aload_n 0, 1) := by decide +kernel
theorem dX12_copy_134 : decode cX12_copy 134 = .ok (.getfield 63, 3) := by decide +kernel
theorem dX12_copy_137 : decode cX12_copy 137 = .ok (.bipush 40, 2) := by decide +kernel
theorem dX12_copy_139 : decode cX12_copy 139 = .ok (.iload_n 1, 1) := by decide +kernel
theorem dX12_copy_140 : decode cX12_copy 140 = .ok (.imul, 1) := by decide +kernel
theorem dX12_copy_141 : decode cX12_copy 141 = .ok (.iload_n 2, 1) := by decide +kernel
theorem dX12_copy_142 : decode cX12_copy 142 = .ok (.iadd, 1) := by decide +kernel
theorem dX12_copy_143 : decode cX12_copy 143 = .ok (.iload 6, 2) := by decide +kernel
theorem dX12_copy_145 : decode cX12_copy 145 = .ok (.iadd, 1) := by decide +kernel
theorem dX12_copy_146 : decode cX12_copy 146 = .ok (.iaload, 1) := by decide +kernel
theorem dX12_copy_147 : decode cX12_copy 147 = .ok (.iastore, 1) := by decide +kernel
theorem dX12_copy_148 : decode cX12_copy 148 = .ok (.iinc 6 1, 3) := by decide +kernel
theorem dX12_copy_151 : decode cX12_copy 151 = .ok (.goto (-31), 3) := by decide +kernel
theorem dX12_copy_154 : decode cX12_copy 154 = .ok (.iconst 0, 1) := by decide +kernel
theorem dX12_copy_155 : decode cX12_copy 155 = .ok (.istore 6, 2) := by decide +kernel
theorem dX12_copy_157 : decode cX12_copy 157 = .ok (.iload 6, 2) := by decide +kernel
theorem dX12_copy_159 : decode cX12_copy 159 = .ok (.iload 5, 2) := by decide +kernel
theorem dX12_copy_161 : decode cX12_copy 161 = .ok (.if_icmp .ge 31, 3) := by decide +kernel
theorem dX12_copy_164 : decode cX12_copy 164 = .ok (.aload_n 0, 1) := by decide +kernel
theorem dX12_copy_165 : decode cX12_copy 165 = .ok (.getfield 63, 3) := by decide +kernel
theorem dX12_copy_168 : decode cX12_copy 168 = .ok (.bipush 40, 2) := by decide +kernel
theorem dX12_copy_170 : decode cX12_copy 170 = .ok (.iload_n 3, 1) := by decide +kernel
theorem dX12_copy_171 : decode cX12_copy 171 = .ok (.imul, 1) := by decide +kernel
theorem dX12_copy_172 : decode cX12_copy 172 = .ok (.iload 4, 2) := by decide +kernel
theorem dX12_copy_174 : decode cX12_copy 174 = .ok (.iadd, 1) := by decide +kernel
theorem dX12_copy_175 : decode cX12_copy 175 = .ok (.iload 6, 2) := by decide +kernel
theorem dX12_copy_177 : decode cX12_copy 177 = .ok (.iadd, 1) := by decide +kernel
theorem dX12_copy_178 : decode cX12_copy 178 = .ok (.aload_n 0, 1) := by decide +kernel
theorem dX12_copy_179 : decode cX12_copy 179 = .ok (.getfield 66, 3) := by decide +kernel
theorem dX12_copy_182 : decode cX12_copy 182 = .ok (.iload 6, 2) := by decide +kernel
theorem dX12_copy_184 : decode cX12_copy 184 = .ok (.iaload, 1) := by decide +kernel
theorem dX12_copy_185 : decode cX12_copy 185 = .ok (.iastore, 1) := by decide +kernel
theorem dX12_copy_186 : decode cX12_copy 186 = .ok (.iinc 6 1, 3) := by decide +kernel
theorem dX12_copy_189 : decode cX12_copy 189 = .ok (.goto (-32), 3) := by decide +kernel
theorem dX12_copy_192 : decode cX12_copy 192 = .ok (.iconst 1, 1) := by decide +kernel
theorem dX12_copy_193 : decode cX12_copy 193 = .ok (.ireturn, 1) := by decide +kernel
theorem dX12_hint_0 : decode cX12_hint 0 = .ok (.aload_n 0, 1) := by decide +kernel
end
section
theorem dX12_hint_1 : decode cX12_hint 1 = .ok (.getfield 53, 3) := by decide +kernel
theorem dX12_hint_4 : decode cX12_hint 4 = .ok (.iconst 0, 1) := by decide +kernel
theorem dX12_hint_5 : decode cX12_hint 5 = .ok (.baload, 1) := by decide +kernel
theorem dX12_hint_6 : decode cX12_hint 6 = .ok (.ifCond .eq 12, 3) := by decide +kernel
theorem dX12_hint_9 : decode cX12_hint 9 = .ok (.aload_n 0, 1) := by decide +kernel
theorem dX12_hint_10 : decode cX12_hint 10 = .ok (.getfield 53, 3) := by decide +kernel
theorem dX12_hint_13 : decode cX12_hint 13 = .ok (.iconst 1, 1) := by decide +kernel
theorem dX12_hint_14 : decode cX12_hint 14 = .ok (.baload, 1) := by decide +kernel
theorem dX12_hint_15 : decode cX12_hint 15 = .ok (.ifCond .ne 9, 3) := by decide +kernel
theorem dX12_hint_18 : decode cX12_hint 18 = .ok (.aload_n 0, 1) := by decide +kernel
theorem dX12_hint_19 : decode cX12_hint 19 = .ok (.iconst 1, 1) := by decide +kernel
theorem dX12_hint_20 : decode cX12_hint 20 = .ok (.invokevirtual 207, 3) := by decide +kernel
theorem dX12_hint_23 : decode cX12_hint 23 = .ok (.ireturn, 1) := by decide +kernel
theorem dX12_hint_24 : decode cX12_hint 24 = .ok (.aload_n 0, 1) := by decide +kernel
theorem dX12_hint_25 : decode cX12_hint 25 = .ok (.invokevirtual 83, 3) := by decide +kernel
theorem dX12_hint_28 : decode cX12_hint 28 = .ok (.istore_n 1, 1) := by decide +kernel
theorem dX12_hint_29 : decode cX12_hint 29 = .ok (.aload_n 0, 1) := by decide +kernel
theorem dX12_hint_30 : decode cX12_hint 30 = .ok (.invokevirtual 109, 3) := by decide +kernel
theorem dX12_hint_33 : decode cX12_hint 33 = .ok (.aload_n 0, 1) := by decide +kernel
theorem dX12_hint_34 : decode cX12_hint 34 = .ok (.getfield 77, 3) := by decide +kernel
theorem dX12_hint_37 : decode cX12_hint 37 = .ok (.aload_n 0, 1) := by decide +kernel
theorem dX12_hint_38 : decode cX12_hint 38 = .ok (.getfield 60, 3) := by decide +kernel
theorem dX12_hint_41 : decode cX12_hint 41 = .ok (.iconst 1, 1) := by decide +kernel
theorem dX12_hint_42 : decode cX12_hint 42 = .ok (.iaload, 1) := by decide +kernel
theorem dX12_hint_43 : decode cX12_hint 43 = .ok (.if_icmp .ge 10, 3) := by decide +kernel
theorem dX12_hint_46 : decode cX12_hint 46 = .ok (.aload_n 0, 1) := by decide +kernel
theorem dX12_hint_47 : decode cX12_hint 47 = .ok (.getfield 77, 3) := by decide +kernel
theorem dX12_hint_50 : decode cX12_hint 50 = .ok (.goto 9, 3) := by decide +kernel
theorem dX12_hint_53 : decode cX12_hint 53 = .ok (.aload_n 0, 1) := by decide +kernel
theorem dX12_hint_54 : decode cX12_hint 54 = .ok (.getfield 60, 3) := by decide +kernel
theorem dX12_hint_57 : decode cX12_hint 57 = .ok (.iconst 1, 1) := by decide +kernel
theorem dX12_hint_58 : decode cX12_hint 58 = .ok (.iaload, 1) := by decide +kernel
theorem dX12_hint_59 : decode cX12_hint 59 = .ok (.istore_n 2, 1) := by decide +kernel
theorem dX12_hint_60 : decode cX12_hint 60 = .ok (.iconst 0, 1) := by decide +kernel
theorem dX12_hint_61 : decode cX12_hint 61 = .ok (.istore_n 3, 1) := by decide +kernel
theorem dX12_hint_62 : decode cX12_hint 62 = .ok (.iload_n 3, 1) := by decide +kernel
theorem dX12_hint_63 : decode cX12_hint 63 = .ok (.iload_n 2, 1) := by decide +kernel
theorem dX12_hint_64 : decode cX12_hint 64 = .ok (.if_icmp .ge 24, 3) := by decide +kernel
theorem dX12_hint_67 : decode cX12_hint 67 = .ok (.aload_n 0, 1) := by decide +kernel
theorem dX12_hint_68 : decode cX12_hint 68 = .ok (.getfield 63, 3) := by decide +kernel
theorem dX12_hint_71 : decode cX12_hint 71 = .ok (.bipush 40, 2) := by decide +kernel
theorem dX12_hint_73 : decode cX12_hint 73 = .ok (.iload_n 3, 1) := by decide +kernel
theorem dX12_hint_74 : decode cX12_hint 74 = .ok (.iadd, 1) := by decide +kernel
theorem dX12_hint_75 : decode cX12_hint 75 = .ok (.aload_n 0, 1) := by decide +kernel
theorem dX12_hint_76 : decode cX12_hint 76 = .ok (.getfield 32, 3) := by decide +kernel
theorem dX12_hint_79 : decode cX12_hint 79 = .ok (.iload_n 3, 1) := by decide +kernel
theorem dX12_hint_80 : decode cX12_hint 80 = .ok (.iaload, 1) := by decide +kernel
theorem dX12_hint_81 : decode cX12_hint 81 = .ok (.iastore, 1) := by decide +kernel
theorem dX12_hint_82 : decode cX12_hint 82 = .ok (.iinc 3 1, 3) := by decide +kernel
theorem dX12_hint_85 : decode cX12_hint 85 = .ok (.goto (-23), 3) := by decide +kernel
theorem dX12_hint_88 : decode cX12_hint 88 = .ok (.iload_n 2, 1) := by decide +kernel
theorem dX12_hint_89 : decode cX12_hint 89 = .ok (.ireturn, 1) := by decide +kernel
theorem dX12_count_0 : decode cX12_count 0 = .ok (.iconst 0, 1) := by decide +kernel
theorem dX12_count_1 : decode cX12_count 1 = .ok (.istore_n 2, 1) := by decide +kernel
theorem dX12_count_2 : decode cX12_count 2 = .ok (.iload_n 1, 1) := by decide +kernel
theorem dX12_count_3 : decode cX12_count 3 = .ok (.tableswitch 85 0 4 #[33, 38, 43, 48, 53], 33) := by decide +kernel
theorem dX12_count_36 : decode cX12_count 36 = .ok (.aload_n 0, 1) := by decide +kernel
theorem dX12_count_37 : decode cX12_count 37 = .ok (.getfield 7, 3) := by decide +kernel
theorem dX12_count_40 : decode cX12_count 40 = .ok (.ireturn, 1) := by decide +kernel
theorem dX12_count_41 : decode cX12_count 41 = .ok (.aload_n 0, 1) := by decide +kernel
theorem dX12_count_42 : decode cX12_count 42 = .ok (.getfield 17, 3) := by decide +kernel
theorem dX12_count_45 : decode cX12_count 45 = .ok (.ireturn, 1) := by decide +kernel
theorem dX12_count_46 : decode cX12_count 46 = .ok (.aload_n 0, 1) := by decide +kernel
theorem dX12_count_47 : decode cX12_count 47 = .ok (.getfield 23, 3) := by decide +kernel
theorem dX12_count_50 : decode cX12_count 50 = .ok (.ireturn, 1) := by decide +kernel
theorem dX12_count_51 : decode cX12_count 51 = .ok (.aload_n 0, 1) := by decide +kernel
theorem dX12_count_52 : decode cX12_count 52 = .ok (.getfield 80, 3) := by decide +kernel
theorem dX12_count_55 : decode cX12_count 55 = .ok (.ireturn, 1) := by decide +kernel
theorem dX12_count_56 : decode cX12_count 56 = .ok (.iconst 0, 1) := by decide +kernel
theorem dX12_count_57 : decode cX12_count 57 = .ok (.istore_n 3, 1) := by decide +kernel
theorem dX12_count_58 : decode cX12_count 58 = .ok (.iload_n 3, 1) := by decide +kernel
theorem dX12_count_59 : decode cX12_count 59 = .ok (.iconst 4, 1) := by decide +kernel
theorem dX12_count_60 : decode cX12_count 60 = .ok (.if_icmp .ge 26, 3) := by decide +kernel
theorem dX12_count_63 : decode cX12_count 63 = .ok (.iload_n 2, 1) := by decide +kernel
theorem dX12_count_64 : decode cX12_count 64 = .ok (.aload_n 0, 1) := by decide +kernel
theorem dX12_count_65 : decode cX12_count 65 = .ok (.getfield 53, 3) := by decide +kernel
theorem dX12_count_68 : decode cX12_count 68 = .ok (.iload_n 3, 1) := by decide +kernel
theorem dX12_count_69 : decode cX12_count 69 = .ok (.baload, 1) := by decide +kernel
theorem dX12_count_70 : decode cX12_count 70 = .ok (.ifCond .eq 7, 3) := by decide +kernel
theorem dX12_count_73 : decode cX12_count 73 = .ok (.iconst 1, 1) := by decide +kernel
theorem dX12_count_74 : decode cX12_count 74 = .ok (.goto 4, 3) := by decide +kernel
theorem dX12_count_77 : decode cX12_count 77 = .ok (.iconst 0, 1) := by decide +kernel
theorem dX12_count_78 : decode cX12_count 78 = .ok (.iadd, 1) := by decide +kernel
theorem dX12_count_79 : decode cX12_count 79 = .ok (.istore_n 2, 1) := by decide +kernel
theorem dX12_count_80 : decode cX12_count 80 = .ok (.iinc 3 1, 3) := by decide +kernel
theorem dX12_count_83 : decode cX12_count 83 = .ok (.goto (-25), 3) := by decide +kernel
theorem dX12_count_86 : decode cX12_count 86 = .ok (.iload_n 2, 1) := by decide +kernel
theorem dX12_count_87 : decode cX12_count 87 = .ok (.ireturn, 1) := by decide +kernel
theorem dX12_count_88 : decode cX12_count 88 = .ok (.bipush (-2), 2) := by decide +kernel
theorem dX12_count_90 : decode cX12_count 90 = .ok (.ireturn, 1) := by decide +kernel
theorem dX12_digest_0 : decode cX12_digest 0 = .ok (.ldc2_w 214, 3) := by decide +kernel
theorem dX12_digest_3 : decode cX12_digest 3 = .ok (.lstore_n 1, 1) := by decide +kernel
theorem dX12_digest_4 : decode cX12_digest 4 = .ok (.iconst 0, 1) := by decide +kernel
theorem dX12_digest_5 : decode cX12_digest 5 = .ok (.istore_n 3, 1) := by decide +kernel
theorem dX12_digest_6 : decode cX12_digest 6 = .ok (.iload_n 3, 1) := by decide +kernel
theorem dX12_digest_7 : decode cX12_digest 7 = .ok (.iconst 5, 1) := by decide +kernel
theorem dX12_digest_8 : decode cX12_digest 8 = .ok (.if_icmp .ge 31, 3) := by decide +kernel
theorem dX12_digest_11 : decode cX12_digest 11 = .ok (.iload_n 3, 1) := by decide +kernel
theorem dX12_digest_12 : decode cX12_digest 12 = .ok (.iconst 3, 1) := by decide +kernel
theorem dX12_digest_13 : decode cX12_digest 13 = .ok (.if_icmp .ne 7, 3) := by decide +kernel
theorem dX12_digest_16 : decode cX12_digest 16 = .ok (.lload_n 1, 1) := by decide +kernel
theorem dX12_digest_17 : decode cX12_digest 17 = .ok (.goto 15, 3) := by decide +kernel
theorem dX12_digest_20 : decode cX12_digest 20 = .ok (.ldc2_w 216, 3) := by decide +kernel
theorem dX12_digest_23 : decode cX12_digest 23 = .ok (.lload_n 1, 1) := by decide +kernel
theorem dX12_digest_24 : decode cX12_digest 24 = .ok (.lmul, 1) := by decide +kernel
theorem dX12_digest_25 : decode cX12_digest 25 = .ok (.aload_n 0, 1) := by decide +kernel
theorem dX12_digest_26 : decode cX12_digest 26 = .ok (.iload_n 3, 1) := by decide +kernel
theorem dX12_digest_27 : decode cX12_digest 27 = .ok (.invokevirtual 218, 3) := by decide +kernel
theorem dX12_digest_30 : decode cX12_digest 30 = .ok (.i2l, 1) := by decide +kernel
theorem dX12_digest_31 : decode cX12_digest 31 = .ok (.ladd, 1) := by decide +kernel
theorem dX12_digest_32 : decode cX12_digest 32 = .ok (.lstore_n 1, 1) := by decide +kernel
theorem dX12_digest_33 : decode cX12_digest 33 = .ok (.iinc 3 1, 3) := by decide +kernel
theorem dX12_digest_36 : decode cX12_digest 36 = .ok (.goto (-30), 3) := by decide +kernel
theorem dX12_digest_39 : decode cX12_digest 39 = .ok (.iconst 0, 1) := by decide +kernel
theorem dX12_digest_40 : decode cX12_digest 40 = .ok (.istore_n 3, 1) := by decide +kernel
theorem dX12_digest_41 : decode cX12_digest 41 = .ok (.iload_n 3, 1) := by decide +kernel
theorem dX12_digest_42 : decode cX12_digest 42 = .ok (.aload_n 0, 1) := by decide +kernel
theorem dX12_digest_43 : decode cX12_digest 43 = .ok (.getfield 7, 3) := by decide +kernel
theorem dX12_digest_46 : decode cX12_digest 46 = .ok (.if_icmp .ge 23, 3) := by decide +kernel
theorem dX12_digest_49 : decode cX12_digest 49 = .ok (.ldc2_w 216, 3) := by decide +kernel
theorem dX12_digest_52 : decode cX12_digest 52 = .ok (.lload_n 1, 1) := by decide +kernel
theorem dX12_digest_53 : decode cX12_digest 53 = .ok (.lmul, 1) := by decide +kernel
theorem dX12_digest_54 : decode cX12_digest 54 = .ok (.aload_n 0, 1) := by decide +kernel
theorem dX12_digest_55 : decode cX12_digest 55 = .ok (.getfield 13, 3) := by decide +kernel
theorem dX12_digest_58 : decode cX12_digest 58 = .ok (.iload_n 3, 1) := by decide +kernel
theorem dX12_digest_59 : decode cX12_digest 59 = .ok (.iaload, 1) := by decide +kernel
theorem dX12_digest_60 : decode cX12_digest 60 = .ok (.i2l, 1) := by decide +kernel
theorem dX12_digest_61 : decode cX12_digest 61 = .ok (.ladd, 1) := by decide +kernel
theorem dX12_digest_62 : decode cX12_digest 62 = .ok (.lstore_n 1, 1) := by decide +kernel
theorem dX12_digest_63 : decode cX12_digest 63 = .ok (.iinc 3 1, 3) := by decide +kernel
theorem dX12_digest_66 : decode cX12_digest 66 = .ok (.goto (-25), 3) := by decide +kernel
theorem dX12_digest_69 : decode cX12_digest 69 = .ok (.iconst 0, 1) := by decide +kernel
theorem dX12_digest_70 : decode cX12_digest 70 = .ok (.istore_n 3, 1) := by decide +kernel
theorem dX12_digest_71 : decode cX12_digest 71 = .ok (.iload_n 3, 1) := by decide +kernel
theorem dX12_digest_72 : decode cX12_digest 72 = .ok (.aload_n 0, 1) := by decide +kernel
theorem dX12_digest_73 : decode cX12_digest 73 = .ok (.getfield 17, 3) := by decide +kernel
theorem dX12_digest_76 : decode cX12_digest 76 = .ok (.if_icmp .ge 23, 3) := by decide +kernel
theorem dX12_digest_79 : decode cX12_digest 79 = .ok (.ldc2_w 216, 3) := by decide +kernel
theorem dX12_digest_82 : decode cX12_digest 82 = .ok (.lload_n 1, 1) := by decide +kernel
theorem dX12_digest_83 : decode cX12_digest 83 = .ok (.lmul, 1) := by decide +kernel
theorem dX12_digest_84 : decode cX12_digest 84 = .ok (.aload_n 0, 1) := by decide +kernel
theorem dX12_digest_85 : decode cX12_digest 85 = .ok (.getfield 20, 3) := by decide +kernel
theorem dX12_digest_88 : decode cX12_digest 88 = .ok (.iload_n 3, 1) := by decide +kernel
theorem dX12_digest_89 : decode cX12_digest 89 = .ok (.iaload, 1) := by decide +kernel
theorem dX12_digest_90 : decode cX12_digest 90 = .ok (.i2l, 1) := by decide +kernel
theorem dX12_digest_91 : decode cX12_digest 91 = .ok (.ladd, 1) := by decide +kernel
theorem dX12_digest_92 : decode cX12_digest 92 = .ok (.lstore_n 1, 1) := by decide +kernel
theorem dX12_digest_93 : decode cX12_digest 93 = .ok (.iinc 3 1, 3) := by decide +kernel
theorem dX12_digest_96 : decode cX12_digest 96 = .ok (.goto (-25), 3) := by decide +kernel
theorem dX12_digest_99 : decode cX12_digest 99 = .ok (.aload_n 0, 1) := by decide +kernel
theorem dX12_digest_100 : decode cX12_digest 100 = .ok (.getfield 53, 3) := by decide +kernel
theorem dX12_digest_103 : decode cX12_digest 103 = .ok (.iconst 0, 1) := by decide +kernel
theorem dX12_digest_104 : decode cX12_digest 104 = .ok (.baload, 1) := by decide +kernel
theorem dX12_digest_105 : decode cX12_digest 105 = .ok (.ifCond .eq 73, 3) := by decide +kernel
theorem dX12_digest_108 : decode cX12_digest 108 = .ok (.aload_n 0, 1) := by decide +kernel
theorem dX12_digest_109 : decode cX12_digest 109 = .ok (.invokevirtual 83, 3) := by decide +kernel
theorem dX12_digest_112 : decode cX12_digest 112 = .ok (.istore_n 3, 1) := by decide +kernel
theorem dX12_digest_113 : decode cX12_digest 113 = .ok (.ldc2_w 216, 3) := by decide +kernel
theorem dX12_digest_116 : decode cX12_digest 116 = .ok (.lload_n 1, 1) := by decide +kernel
theorem dX12_digest_117 : decode cX12_digest 117 = .ok (.lmul, 1) := by decide +kernel
theorem dX12_digest_118 : decode cX12_digest 118 = .ok (.aload_n 0, 1) := by decide +kernel
theorem dX12_digest_119 : decode cX12_digest 119 = .ok (.getfield 77, 3) := by decide +kernel
theorem dX12_digest_122 : decode cX12_digest 122 = .ok (.i2l, 1) := by decide +kernel
theorem dX12_digest_123 : decode cX12_digest 123 = .ok (.ladd, 1) := by decide +kernel
theorem dX12_digest_124 : decode cX12_digest 124 = .ok (.lstore_n 1, 1) := by decide +kernel
theorem dX12_digest_125 : decode cX12_digest 125 = .ok (.iconst 0, 1) := by decide +kernel
theorem dX12_digest_126 : decode cX12_digest 126 = .ok (.istore 4, 2) := by decide +kernel
theorem dX12_digest_128 : decode cX12_digest 128 = .ok (.iload 4, 2) := by decide +kernel
theorem dX12_digest_130 : decode cX12_digest 130 = .ok (.iconst 5, 1) := by decide +kernel
theorem dX12_digest_131 : decode cX12_digest 131 = .ok (.if_icmp .ge 23, 3) := by decide +kernel
theorem dX12_digest_134 : decode cX12_digest 134 = .ok (.ldc2_w 216, 3) := by decide +kernel
theorem dX12_digest_137 : decode cX12_digest 137 = .ok (.lload_n 1, 1) := by decide +kernel
theorem dX12_digest_138 : decode cX12_digest 138 = .ok (.lmul, 1) := by decide +kernel
theorem dX12_digest_139 : decode cX12_digest 139 = .ok (.aload_n 0, 1) := by decide +kernel
theorem dX12_digest_140 : decode cX12_digest 140 = .ok (.iload 4, 2) := by decide +kernel
theorem dX12_digest_142 : decode cX12_digest 142 = .ok (.invokevirtual 180, 3) := by decide +kernel
theorem dX12_digest_145 : decode cX12_digest 145 = .ok (.i2l, 1) := by decide +kernel
theorem dX12_digest_146 : decode cX12_digest 146 = .ok (.ladd, 1) := by decide +kernel
theorem dX12_digest_147 : decode cX12_digest 147 = .ok (.lstore_n 1, 1) := by decide +kernel
theorem dX12_digest_148 : decode cX12_digest 148 = .ok (.iinc 4 1, 3) := by decide +kernel
theorem dX12_digest_151 : decode cX12_digest 151 = .ok (.goto (-23), 3) := by decide +kernel
theorem dX12_digest_154 : decode cX12_digest 154 = .ok (.ldc2_w 216, 3) := by decide +kernel
theorem dX12_digest_157 : decode cX12_digest 157 = .ok (.lload_n 1, 1) := by decide +kernel
theorem dX12_digest_158 : decode cX12_digest 158 = .ok (.lmul, 1) := by decide +kernel
theorem dX12_digest_159 : decode cX12_digest 159 = .ok (.aload_n 0, 1) := by decide +kernel
theorem dX12_digest_160 : decode cX12_digest 160 = .ok (.invokevirtual 112, 3) := by decide +kernel
theorem dX12_digest_163 : decode cX12_digest 163 = .ok (.i2l, 1) := by decide +kernel
theorem dX12_digest_164 : decode cX12_digest 164 = .ok (.ladd, 1) := by decide +kernel
theorem dX12_digest_165 : decode cX12_digest 165 = .ok (.lstore_n 1, 1) := by decide +kernel
theorem dX12_digest_166 : decode cX12_digest 166 = .ok (.ldc2_w 216, 3) := by decide +kernel
theorem dX12_digest_169 : decode cX12_digest 169 = .ok (.lload_n 1, 1) := by decide +kernel
theorem dX12_digest_170 : decode cX12_digest 170 = .ok (.lmul, 1) := by decide +kernel
theorem dX12_digest_171 : decode cX12_digest 171 = .ok (.aload_n 0, 1) := by decide +kernel
theorem dX12_digest_172 : decode cX12_digest 172 = .ok (.invokevirtual 201, 3) := by decide +kernel
theorem dX12_digest_175 : decode cX12_digest 175 = .ok (.i2l, 1) := by decide +kernel
theorem dX12_digest_176 : decode cX12_digest 176 = .ok (.ladd, 1) := by decide +kernel
theorem dX12_digest_177 : decode cX12_digest 177 = .ok (.lstore_n 1, 1) := by decide +kernel
theorem dX12_digest_178 : decode cX12_digest 178 = .ok (.lload_n 1, 1) := by decide +kernel
theorem dX12_digest_179 : decode cX12_digest 179 = .ok (.lreturn, 1) := by decide +kernel
theorem dL_law_0 : decode cL_law 0 = .ok (.new 7, 3) := by decide +kernel
theorem dL_law_3 : decode cL_law 3 = .ok (.dup, 1) := by decide +kernel
theorem dL_law_4 : decode cL_law 4 = .ok (.invokespecial 9, 3) := by decide +kernel
theorem dL_law_7 : decode cL_law 7 = .ok (.astore_n 1, 1) := by decide +kernel
theorem dL_law_8 : decode cL_law 8 = .ok (.new 10, 3) := by decide +kernel
theorem dL_law_11 : decode cL_law 11 = .ok (.dup, 1) := by decide +kernel
theorem dL_law_12 : decode cL_law 12 = .ok (.invokespecial 12, 3) := by decide +kernel
theorem dL_law_15 : decode cL_law 15 = .ok (.astore_n 2, 1) := by decide +kernel
theorem dL_law_16 : decode cL_law 16 = .ok (.iconst 0, 1) := by decide +kernel
theorem dL_law_17 : decode cL_law 17 = .ok (.istore_n 3, 1) := by decide +kernel
theorem dL_law_18 : decode cL_law 18 = .ok (.iload_n 3, 1) := by decide +kernel
theorem dL_law_19 : decode cL_law 19 = .ok (.aload_n 0, 1) := by decide +kernel
theorem dL_law_20 : decode cL_law 20 = .ok (.arraylength, 1) := by decide +kernel
theorem dL_law_21 : decode cL_law 21 = .ok (.bipush 6, 2) := by decide +kernel
theorem dL_law_23 : decode cL_law 23 = .ok (.isub, 1) := by decide +kernel
theorem dL_law_24 : decode cL_law 24 = .ok (.if_icmp .gt 893, 3) := by decide +kernel
theorem dL_law_27 : decode cL_law 27 = .ok (.aload_n 0, 1) := by decide +kernel
theorem dL_law_28 : decode cL_law 28 = .ok (.iload_n 3, 1) := by decide +kernel
theorem dL_law_29 : decode cL_law 29 = .ok (.iaload, 1) := by decide +kernel
theorem dL_law_30 : decode cL_law 30 = .ok (.bipush 31, 2) := by decide +kernel
theorem dL_law_32 : decode cL_law 32 = .ok (.iand, 1) := by decide +kernel
theorem dL_law_33 : decode cL_law 33 = .ok (.tableswitch 878 0 25 #[119, 142, 175, 198, 231, 254, 267, 290, 333, 366, 379, 402, 425, 478, 501, 534, 567, 590, 603, 646, 669, 722, 765, 828, 841, 864], 119) := by decide +kernel
theorem dL_law_152 : decode cL_law 152 = .ok (.aload_n 1, 1) := by decide +kernel
theorem dL_law_153 : decode cL_law 153 = .ok (.aload_n 0, 1) := by decide +kernel
theorem dL_law_154 : decode cL_law 154 = .ok (.iload_n 3, 1) := by decide +kernel
theorem dL_law_155 : decode cL_law 155 = .ok (.iconst 1, 1) := by decide +kernel
theorem dL_law_156 : decode cL_law 156 = .ok (.iadd, 1) := by decide +kernel
theorem dL_law_157 : decode cL_law 157 = .ok (.iaload, 1) := by decide +kernel
theorem dL_law_158 : decode cL_law 158 = .ok (.invokevirtual 13, 3) := by decide +kernel
theorem dL_law_161 : decode cL_law 161 = .ok (.aload_n 2, 1) := by decide +kernel
theorem dL_law_162 : decode cL_law 162 = .ok (.aload_n 0, 1) := by decide +kernel
theorem dL_law_163 : decode cL_law 163 = .ok (.iload_n 3, 1) := by decide +kernel
theorem dL_law_164 : decode cL_law 164 = .ok (.iconst 1, 1) := by decide +kernel
theorem dL_law_165 : decode cL_law 165 = .ok (.iadd, 1) := by decide +kernel
theorem dL_law_166 : decode cL_law 166 = .ok (.iaload, 1) := by decide +kernel
theorem dL_law_167 : decode cL_law 167 = .ok (.invokevirtual 17, 3) := by decide +kernel
theorem dL_law_170 : decode cL_law 170 = .ok (.if_icmp .eq 741, 3) := by decide +kernel
theorem dL_law_173 : decode cL_law 173 = .ok (.iconst 0, 1) := by decide +kernel
theorem dL_law_174 : decode cL_law 174 = .ok (.ireturn, 1) := by decide +kernel
theorem dL_law_175 : decode cL_law 175 = .ok (.aload_n 1, 1) := by decide +kernel
theorem dL_law_176 : decode cL_law 176 = .ok (.aload_n 0, 1) := by decide +kernel
theorem dL_law_177 : decode cL_law 177 = .ok (.iload_n 3, 1) := by decide +kernel
theorem dL_law_178 : decode cL_law 178 = .ok (.iconst 1, 1) := by decide +kernel
theorem dL_law_179 : decode cL_law 179 = .ok (.iadd, 1) := by decide +kernel
theorem dL_law_180 : decode cL_law 180 = .ok (.iaload, 1) := by decide +kernel
theorem dL_law_181 : decode cL_law 181 = .ok (.aload_n 0, 1) := by decide +kernel
theorem dL_law_182 : decode cL_law 182 = .ok (.iload_n 3, 1) := by decide +kernel
theorem dL_law_183 : decode cL_law 183 = .ok (.iconst 2, 1) := by decide +kernel
theorem dL_law_184 : decode cL_law 184 = .ok (.iadd, 1) := by decide +kernel
theorem dL_law_185 : decode cL_law 185 = .ok (.iaload, 1) := by decide +kernel
theorem dL_law_186 : decode cL_law 186 = .ok (.invokevirtual 18, 3) := by decide +kernel
theorem dL_law_189 : decode cL_law 189 = .ok (.aload_n 2, 1) := by decide +kernel
theorem dL_law_190 : decode cL_law 190 = .ok (.aload_n 0, 1) := by decide +kernel
theorem dL_law_191 : decode cL_law 191 = .ok (.iload_n 3, 1) := by decide +kernel
theorem dL_law_192 : decode cL_law 192 = .ok (.iconst 1, 1) := by decide +kernel
theorem dL_law_193 : decode cL_law 193 = .ok (.iadd, 1) := by decide +kernel
theorem dL_law_194 : decode cL_law 194 = .ok (.iaload, 1) := by decide +kernel
theorem dL_law_195 : decode cL_law 195 = .ok (.aload_n 0, 1) := by decide +kernel
theorem dL_law_196 : decode cL_law 196 = .ok (.iload_n 3, 1) := by decide +kernel
theorem dL_law_197 : decode cL_law 197 = .ok (.iconst 2, 1) := by decide +kernel
theorem dL_law_198 : decode cL_law 198 = .ok (.iadd, 1) := by decide +kernel
theorem dL_law_199 : decode cL_law 199 = .ok (.iaload, 1) := by decide +kernel
theorem dL_law_200 : decode cL_law 200 = .ok (.invokevirtual 22, 3) := by decide +kernel
theorem dL_law_203 : decode cL_law 203 = .ok (.if_icmp .eq 708, 3) := by decide +kernel
theorem dL_law_206 : decode cL_law 206 = .ok (.iconst 0, 1) := by decide +kernel
theorem dL_law_207 : decode cL_law 207 = .ok (.ireturn, 1) := by decide +kernel
theorem dL_law_208 : decode cL_law 208 = .ok (.aload_n 1, 1) := by decide +kernel
theorem dL_law_209 : decode cL_law 209 = .ok (.aload_n 0, 1) := by decide +kernel
theorem dL_law_210 : decode cL_law 210 = .ok (.iload_n 3, 1) := by decide +kernel
theorem dL_law_211 : decode cL_law 211 = .ok (.iconst 1, 1) := by decide +kernel
theorem dL_law_212 : decode cL_law 212 = .ok (.iadd, 1) := by decide +kernel
theorem dL_law_213 : decode cL_law 213 = .ok (.iaload, 1) := by decide +kernel
theorem dL_law_214 : decode cL_law 214 = .ok (.invokevirtual 23, 3) := by decide +kernel
theorem dL_law_217 : decode cL_law 217 = .ok (.aload_n 2, 1) := by decide +kernel
theorem dL_law_218 : decode cL_law 218 = .ok (.aload_n 0, 1) := by decide +kernel
theorem dL_law_219 : decode cL_law 219 = .ok (.iload_n 3, 1) := by decide +kernel
theorem dL_law_220 : decode cL_law 220 = .ok (.iconst 1, 1) := by decide +kernel
theorem dL_law_221 : decode cL_law 221 = .ok (.iadd, 1) := by decide +kernel
theorem dL_law_222 : decode cL_law 222 = .ok (.iaload, 1) := by decide +kernel
theorem dL_law_223 : decode cL_law 223 = .ok (.invokevirtual 26, 3) := by decide +kernel
theorem dL_law_226 : decode cL_law 226 = .ok (.if_icmp .eq 685, 3) := by decide +kernel
theorem dL_law_229 : decode cL_law 229 = .ok (.iconst 0, 1) := by decide +kernel
theorem dL_law_230 : decode cL_law 230 = .ok (.ireturn, 1) := by decide +kernel
theorem dL_law_231 : decode cL_law 231 = .ok (.aload_n 1, 1) := by decide +kernel
theorem dL_law_232 : decode cL_law 232 = .ok (.aload_n 0, 1) := by decide +kernel
theorem dL_law_233 : decode cL_law 233 = .ok (.iload_n 3, 1) := by decide +kernel
theorem dL_law_234 : decode cL_law 234 = .ok (.iconst 1, 1) := by decide +kernel
theorem dL_law_235 : decode cL_law 235 = .ok (.iadd, 1) := by decide +kernel
theorem dL_law_236 : decode cL_law 236 = .ok (.iaload, 1) := by decide +kernel
theorem dL_law_237 : decode cL_law 237 = .ok (.aload_n 0, 1) := by decide +kernel
theorem dL_law_238 : decode cL_law 238 = .ok (.iload_n 3, 1) := by decide +kernel
theorem dL_law_239 : decode cL_law 239 = .ok (.iconst 2, 1) := by decide +kernel
theorem dL_law_240 : decode cL_law 240 = .ok (.iadd, 1) := by decide +kernel
theorem dL_law_241 : decode cL_law 241 = .ok (.iaload, 1) := by decide +kernel
theorem dL_law_242 : decode cL_law 242 = .ok (.invokevirtual 27, 3) := by decide +kernel
theorem dL_law_245 : decode cL_law 245 = .ok (.aload_n 2, 1) := by decide +kernel
theorem dL_law_246 : decode cL_law 246 = .ok (.aload_n 0, 1) := by decide +kernel
theorem dL_law_247 : decode cL_law 247 = .ok (.iload_n 3, 1) := by decide +kernel
theorem dL_law_248 : decode cL_law 248 = .ok (.iconst 1, 1) := by decide +kernel
theorem dL_law_249 : decode cL_law 249 = .ok (.iadd, 1) := by decide +kernel
theorem dL_law_250 : decode cL_law 250 = .ok (.iaload, 1) := by decide +kernel
theorem dL_law_251 : decode cL_law 251 = .ok (.aload_n 0, 1) := by decide +kernel
theorem dL_law_252 : decode cL_law 252 = .ok (.iload_n 3, 1) := by decide +kernel
theorem dL_law_253 : decode cL_law 253 = .ok (.iconst 2, 1) := by decide +kernel
theorem dL_law_254 : decode cL_law 254 = .ok (.iadd, 1) := by decide +kernel
theorem dL_law_255 : decode cL_law 255 = .ok (.iaload, 1) := by decide +kernel
theorem dL_law_256 : decode cL_law 256 = .ok (.invokevirtual 30, 3) := by decide +kernel
theorem dL_law_259 : decode cL_law 259 = .ok (.if_icmp .eq 652, 3) := by decide +kernel
theorem dL_law_262 : decode cL_law 262 = .ok (.iconst 0, 1) := by decide +kernel
theorem dL_law_263 : decode cL_law 263 = .ok (.ireturn, 1) := by decide +kernel
theorem dL_law_264 : decode cL_law 264 = .ok (.aload_n 1, 1) := by decide +kernel
theorem dL_law_265 : decode cL_law 265 = .ok (.aload_n 0, 1) := by decide +kernel
theorem dL_law_266 : decode cL_law 266 = .ok (.iload_n 3, 1) := by decide +kernel
theorem dL_law_267 : decode cL_law 267 = .ok (.iconst 1, 1) := by decide +kernel
theorem dL_law_268 : decode cL_law 268 = .ok (.iadd, 1) := by decide +kernel
theorem dL_law_269 : decode cL_law 269 = .ok (.iaload, 1) := by decide +kernel
theorem dL_law_270 : decode cL_law 270 = .ok (.invokevirtual 31, 3) := by decide +kernel
theorem dL_law_273 : decode cL_law 273 = .ok (.aload_n 2, 1) := by decide +kernel
theorem dL_law_274 : decode cL_law 274 = .ok (.aload_n 0, 1) := by decide +kernel
theorem dL_law_275 : decode cL_law 275 = .ok (.iload_n 3, 1) := by decide +kernel
theorem dL_law_276 : decode cL_law 276 = .ok (.iconst 1, 1) := by decide +kernel
theorem dL_law_277 : decode cL_law 277 = .ok (.iadd, 1) := by decide +kernel
theorem dL_law_278 : decode cL_law 278 = .ok (.iaload, 1) := by decide +kernel
theorem dL_law_279 : decode cL_law 279 = .ok (.invokevirtual 34, 3) := by decide +kernel
theorem dL_law_282 : decode cL_law 282 = .ok (.if_icmp .eq 629, 3) := by decide +kernel
theorem dL_law_285 : decode cL_law 285 = .ok (.iconst 0, 1) := by decide +kernel
theorem dL_law_286 : decode cL_law 286 = .ok (.ireturn, 1) := by decide +kernel
theorem dL_law_287 : decode cL_law 287 = .ok (.aload_n 1, 1) := by decide +kernel
theorem dL_law_288 : decode cL_law 288 = .ok (.invokevirtual 35, 3) := by decide +kernel
theorem dL_law_291 : decode cL_law 291 = .ok (.aload_n 2, 1) := by decide +kernel
theorem dL_law_292 : decode cL_law 292 = .ok (.invokevirtual 39, 3) := by decide +kernel
theorem dL_law_295 : decode cL_law 295 = .ok (.if_icmp .eq 616, 3) := by decide +kernel
theorem dL_law_298 : decode cL_law 298 = .ok (.iconst 0, 1) := by decide +kernel
theorem dL_law_299 : decode cL_law 299 = .ok (.ireturn, 1) := by decide +kernel
theorem dL_law_300 : decode cL_law 300 = .ok (.aload_n 1, 1) := by decide +kernel
theorem dL_law_301 : decode cL_law 301 = .ok (.aload_n 0, 1) := by decide +kernel
theorem dL_law_302 : decode cL_law 302 = .ok (.iload_n 3, 1) := by decide +kernel
theorem dL_law_303 : decode cL_law 303 = .ok (.iconst 1, 1) := by decide +kernel
theorem dL_law_304 : decode cL_law 304 = .ok (.iadd, 1) := by decide +kernel
theorem dL_law_305 : decode cL_law 305 = .ok (.iaload, 1) := by decide +kernel
theorem dL_law_306 : decode cL_law 306 = .ok (.invokevirtual 40, 3) := by decide +kernel
theorem dL_law_309 : decode cL_law 309 = .ok (.aload_n 2, 1) := by decide +kernel
theorem dL_law_310 : decode cL_law 310 = .ok (.aload_n 0, 1) := by decide +kernel
theorem dL_law_311 : decode cL_law 311 = .ok (.iload_n 3, 1) := by decide +kernel
theorem dL_law_312 : decode cL_law 312 = .ok (.iconst 1, 1) := by decide +kernel
theorem dL_law_313 : decode cL_law 313 = .ok (.iadd, 1) := by decide +kernel
theorem dL_law_314 : decode cL_law 314 = .ok (.iaload, 1) := by decide +kernel
theorem dL_law_315 : decode cL_law 315 = .ok (.invokevirtual 43, 3) := by decide +kernel
theorem dL_law_318 : decode cL_law 318 = .ok (.if_icmp .eq 593, 3) := by decide +kernel
theorem dL_law_321 : decode cL_law 321 = .ok (.iconst 0, 1) := by decide +kernel
theorem dL_law_322 : decode cL_law 322 = .ok (.ireturn, 1) := by decide +kernel
theorem dL_law_323 : decode cL_law 323 = .ok (.aload_n 1, 1) := by decide +kernel
theorem dL_law_324 : decode cL_law 324 = .ok (.aload_n 0, 1) := by decide +kernel
theorem dL_law_325 : decode cL_law 325 = .ok (.iload_n 3, 1) := by decide +kernel
theorem dL_law_326 : decode cL_law 326 = .ok (.iconst 1, 1) := by decide +kernel
theorem dL_law_327 : decode cL_law 327 = .ok (.iadd, 1) := by decide +kernel
theorem dL_law_328 : decode cL_law 328 = .ok (.iaload, 1) := by decide +kernel
theorem dL_law_329 : decode cL_law 329 = .ok (.aload_n 0, 1) := by decide +kernel
theorem dL_law_330 : decode cL_law 330 = .ok (.iload_n 3, 1) := by decide +kernel
theorem dL_law_331 : decode cL_law 331 = .ok (.iconst 2, 1) := by decide +kernel
theorem dL_law_332 : decode cL_law 332 = .ok (.iadd, 1) := by decide +kernel
theorem dL_law_333 : decode cL_law 333 = .ok (.iaload, 1) := by decide +kernel
theorem dL_law_334 : decode cL_law 334 = .ok (.aload_n 0, 1) := by decide +kernel
theorem dL_law_335 : decode cL_law 335 = .ok (.iload_n 3, 1) := by decide +kernel
theorem dL_law_336 : decode cL_law 336 = .ok (.iconst 3, 1) := by decide +kernel
theorem dL_law_337 : decode cL_law 337 = .ok (.iadd, 1) := by decide +kernel
theorem dL_law_338 : decode cL_law 338 = .ok (.iaload, 1) := by decide +kernel
theorem dL_law_339 : decode cL_law 339 = .ok (.invokevirtual 44, 3) := by decide +kernel
theorem dL_law_342 : decode cL_law 342 = .ok (.aload_n 2, 1) := by decide +kernel
theorem dL_law_343 : decode cL_law 343 = .ok (.aload_n 0, 1) := by decide +kernel
theorem dL_law_344 : decode cL_law 344 = .ok (.iload_n 3, 1) := by decide +kernel
theorem dL_law_345 : decode cL_law 345 = .ok (.iconst 1, 1) := by decide +kernel
theorem dL_law_346 : decode cL_law 346 = .ok (.iadd, 1) := by decide +kernel
theorem dL_law_347 : decode cL_law 347 = .ok (.iaload, 1) := by decide +kernel
theorem dL_law_348 : decode cL_law 348 = .ok (.aload_n 0, 1) := by decide +kernel
theorem dL_law_349 : decode cL_law 349 = .ok (.iload_n 3, 1) := by decide +kernel
theorem dL_law_350 : decode cL_law 350 = .ok (.iconst 2, 1) := by decide +kernel
theorem dL_law_351 : decode cL_law 351 = .ok (.iadd, 1) := by decide +kernel
theorem dL_law_352 : decode cL_law 352 = .ok (.iaload, 1) := by decide +kernel
theorem dL_law_353 : decode cL_law 353 = .ok (.aload_n 0, 1) := by decide +kernel
theorem dL_law_354 : decode cL_law 354 = .ok (.iload_n 3, 1) := by decide +kernel
theorem dL_law_355 : decode cL_law 355 = .ok (.iconst 3, 1) := by decide +kernel
theorem dL_law_356 : decode cL_law 356 = .ok (.iadd, 1) := by decide +kernel
theorem dL_law_357 : decode cL_law 357 = .ok (.iaload, 1) := by decide +kernel
theorem dL_law_358 : decode cL_law 358 = .ok (.invokevirtual 48, 3) := by decide +kernel
theorem dL_law_361 : decode cL_law 361 = .ok (.if_icmp .eq 550, 3) := by decide +kernel
theorem dL_law_364 : decode cL_law 364 = .ok (.iconst 0, 1) := by decide +kernel
theorem dL_law_365 : decode cL_law 365 = .ok (.ireturn, 1) := by decide +kernel
theorem dL_law_366 : decode cL_law 366 = .ok (.aload_n 1, 1) := by decide +kernel
theorem dL_law_367 : decode cL_law 367 = .ok (.aload_n 0, 1) := by decide +kernel
theorem dL_law_368 : decode cL_law 368 = .ok (.iload_n 3, 1) := by decide +kernel
theorem dL_law_369 : decode cL_law 369 = .ok (.iconst 1, 1) := by decide +kernel
theorem dL_law_370 : decode cL_law 370 = .ok (.iadd, 1) := by decide +kernel
theorem dL_law_371 : decode cL_law 371 = .ok (.iaload, 1) := by decide +kernel
theorem dL_law_372 : decode cL_law 372 = .ok (.aload_n 0, 1) := by decide +kernel
theorem dL_law_373 : decode cL_law 373 = .ok (.iload_n 3, 1) := by decide +kernel
theorem dL_law_374 : decode cL_law 374 = .ok (.iconst 2, 1) := by decide +kernel
theorem dL_law_375 : decode cL_law 375 = .ok (.iadd, 1) := by decide +kernel
theorem dL_law_376 : decode cL_law 376 = .ok (.iaload, 1) := by decide +kernel
theorem dL_law_377 : decode cL_law 377 = .ok (.invokevirtual 49, 3) := by decide +kernel
theorem dL_law_380 : decode cL_law 380 = .ok (.aload_n 2, 1) := by decide +kernel
theorem dL_law_381 : decode cL_law 381 = .ok (.aload_n 0, 1) := by decide +kernel
theorem dL_law_382 : decode cL_law 382 = .ok (.iload_n 3, 1) := by decide +kernel
theorem dL_law_383 : decode cL_law 383 = .ok (.iconst 1, 1) := by decide +kernel
theorem dL_law_384 : decode cL_law 384 = .ok (.iadd, 1) := by decide +kernel
theorem dL_law_385 : decode cL_law 385 = .ok (.iaload, 1) := by decide +kernel
theorem dL_law_386 : decode cL_law 386 = .ok (.aload_n 0, 1) := by decide +kernel
theorem dL_law_387 : decode cL_law 387 = .ok (.iload_n 3, 1) := by decide +kernel
theorem dL_law_388 : decode cL_law 388 = .ok (.iconst 2, 1) := by decide +kernel
theorem dL_law_389 : decode cL_law 389 = .ok (.iadd, 1) := by decide +kernel
theorem dL_law_390 : decode cL_law 390 = .ok (.iaload, 1) := by decide +kernel
theorem dL_law_391 : decode cL_law 391 = .ok (.invokevirtual 52, 3) := by decide +kernel
theorem dL_law_394 : decode cL_law 394 = .ok (.if_icmp .eq 517, 3) := by decide +kernel
theorem dL_law_397 : decode cL_law 397 = .ok (.iconst 0, 1) := by decide +kernel
theorem dL_law_398 : decode cL_law 398 = .ok (.ireturn, 1) := by decide +kernel
theorem dL_law_399 : decode cL_law 399 = .ok (.aload_n 1, 1) := by decide +kernel
theorem dL_law_400 : decode cL_law 400 = .ok (.invokevirtual 53, 3) := by decide +kernel
theorem dL_law_403 : decode cL_law 403 = .ok (.aload_n 2, 1) := by decide +kernel
theorem dL_law_404 : decode cL_law 404 = .ok (.invokevirtual 56, 3) := by decide +kernel
theorem dL_law_407 : decode cL_law 407 = .ok (.if_icmp .eq 504, 3) := by decide +kernel
theorem dL_law_410 : decode cL_law 410 = .ok (.iconst 0, 1) := by decide +kernel
theorem dL_law_411 : decode cL_law 411 = .ok (.ireturn, 1) := by decide +kernel
theorem dL_law_412 : decode cL_law 412 = .ok (.aload_n 1, 1) := by decide +kernel
theorem dL_law_413 : decode cL_law 413 = .ok (.aload_n 0, 1) := by decide +kernel
theorem dL_law_414 : decode cL_law 414 = .ok (.iload_n 3, 1) := by decide +kernel
theorem dL_law_415 : decode cL_law 415 = .ok (.iconst 1, 1) := by decide +kernel
theorem dL_law_416 : decode cL_law 416 = .ok (.iadd, 1) := by decide +kernel
theorem dL_law_417 : decode cL_law 417 = .ok (.iaload, 1) := by decide +kernel
theorem dL_law_418 : decode cL_law 418 = .ok (.invokevirtual 57, 3) := by decide +kernel
theorem dL_law_421 : decode cL_law 421 = .ok (.aload_n 2, 1) := by decide +kernel
theorem dL_law_422 : decode cL_law 422 = .ok (.aload_n 0, 1) := by decide +kernel
theorem dL_law_423 : decode cL_law 423 = .ok (.iload_n 3, 1) := by decide +kernel
theorem dL_law_424 : decode cL_law 424 = .ok (.iconst 1, 1) := by decide +kernel
theorem dL_law_425 : decode cL_law 425 = .ok (.iadd, 1) := by decide +kernel
theorem dL_law_426 : decode cL_law 426 = .ok (.iaload, 1) := by decide +kernel
theorem dL_law_427 : decode cL_law 427 = .ok (.invokevirtual 60, 3) := by decide +kernel
theorem dL_law_430 : decode cL_law 430 = .ok (.if_icmp .eq 481, 3) := by decide +kernel
theorem dL_law_433 : decode cL_law 433 = .ok (.iconst 0, 1) := by decide +kernel
theorem dL_law_434 : decode cL_law 434 = .ok (.ireturn, 1) := by decide +kernel
theorem dL_law_435 : decode cL_law 435 = .ok (.aload_n 1, 1) := by decide +kernel
theorem dL_law_436 : decode cL_law 436 = .ok (.aload_n 0, 1) := by decide +kernel
theorem dL_law_437 : decode cL_law 437 = .ok (.iload_n 3, 1) := by decide +kernel
theorem dL_law_438 : decode cL_law 438 = .ok (.iconst 1, 1) := by decide +kernel
theorem dL_law_439 : decode cL_law 439 = .ok (.iadd, 1) := by decide +kernel
theorem dL_law_440 : decode cL_law 440 = .ok (.iaload, 1) := by decide +kernel
theorem dL_law_441 : decode cL_law 441 = .ok (.invokevirtual 61, 3) := by decide +kernel
theorem dL_law_444 : decode cL_law 444 = .ok (.aload_n 2, 1) := by decide +kernel
theorem dL_law_445 : decode cL_law 445 = .ok (.aload_n 0, 1) := by decide +kernel
theorem dL_law_446 : decode cL_law 446 = .ok (.iload_n 3, 1) := by decide +kernel
theorem dL_law_447 : decode cL_law 447 = .ok (.iconst 1, 1) := by decide +kernel
theorem dL_law_448 : decode cL_law 448 = .ok (.iadd, 1) := by decide +kernel
theorem dL_law_449 : decode cL_law 449 = .ok (.iaload, 1) := by decide +kernel
theorem dL_law_450 : decode cL_law 450 = .ok (.invokevirtual 64, 3) := by decide +kernel
theorem dL_law_453 : decode cL_law 453 = .ok (.if_icmp .eq 458, 3) := by decide +kernel
theorem dL_law_456 : decode cL_law 456 = .ok (.iconst 0, 1) := by decide +kernel
theorem dL_law_457 : decode cL_law 457 = .ok (.ireturn, 1) := by decide +kernel
theorem dL_law_458 : decode cL_law 458 = .ok (.aload_n 1, 1) := by decide +kernel
theorem dL_law_459 : decode cL_law 459 = .ok (.aload_n 0, 1) := by decide +kernel
theorem dL_law_460 : decode cL_law 460 = .ok (.iload_n 3, 1) := by decide +kernel
theorem dL_law_461 : decode cL_law 461 = .ok (.iconst 1, 1) := by decide +kernel
theorem dL_law_462 : decode cL_law 462 = .ok (.iadd, 1) := by decide +kernel
theorem dL_law_463 : decode cL_law 463 = .ok (.iaload, 1) := by decide +kernel
theorem dL_law_464 : decode cL_law 464 = .ok (.aload_n 0, 1) := by decide +kernel
theorem dL_law_465 : decode cL_law 465 = .ok (.iload_n 3, 1) := by decide +kernel
theorem dL_law_466 : decode cL_law 466 = .ok (.iconst 2, 1) := by decide +kernel
theorem dL_law_467 : decode cL_law 467 = .ok (.iadd, 1) := by decide +kernel
theorem dL_law_468 : decode cL_law 468 = .ok (.iaload, 1) := by decide +kernel
theorem dL_law_469 : decode cL_law 469 = .ok (.aload_n 0, 1) := by decide +kernel
theorem dL_law_470 : decode cL_law 470 = .ok (.iload_n 3, 1) := by decide +kernel
theorem dL_law_471 : decode cL_law 471 = .ok (.iconst 3, 1) := by decide +kernel
theorem dL_law_472 : decode cL_law 472 = .ok (.iadd, 1) := by decide +kernel
theorem dL_law_473 : decode cL_law 473 = .ok (.iaload, 1) := by decide +kernel
theorem dL_law_474 : decode cL_law 474 = .ok (.aload_n 0, 1) := by decide +kernel
theorem dL_law_475 : decode cL_law 475 = .ok (.iload_n 3, 1) := by decide +kernel
theorem dL_law_476 : decode cL_law 476 = .ok (.iconst 4, 1) := by decide +kernel
theorem dL_law_477 : decode cL_law 477 = .ok (.iadd, 1) := by decide +kernel
theorem dL_law_478 : decode cL_law 478 = .ok (.iaload, 1) := by decide +kernel
theorem dL_law_479 : decode cL_law 479 = .ok (.invokevirtual 65, 3) := by decide +kernel
theorem dL_law_482 : decode cL_law 482 = .ok (.aload_n 2, 1) := by decide +kernel
theorem dL_law_483 : decode cL_law 483 = .ok (.aload_n 0, 1) := by decide +kernel
theorem dL_law_484 : decode cL_law 484 = .ok (.iload_n 3, 1) := by decide +kernel
theorem dL_law_485 : decode cL_law 485 = .ok (.iconst 1, 1) := by decide +kernel
theorem dL_law_486 : decode cL_law 486 = .ok (.iadd, 1) := by decide +kernel
theorem dL_law_487 : decode cL_law 487 = .ok (.iaload, 1) := by decide +kernel
theorem dL_law_488 : decode cL_law 488 = .ok (.aload_n 0, 1) := by decide +kernel
theorem dL_law_489 : decode cL_law 489 = .ok (.iload_n 3, 1) := by decide +kernel
theorem dL_law_490 : decode cL_law 490 = .ok (.iconst 2, 1) := by decide +kernel
theorem dL_law_491 : decode cL_law 491 = .ok (.iadd, 1) := by decide +kernel
theorem dL_law_492 : decode cL_law 492 = .ok (.iaload, 1) := by decide +kernel
theorem dL_law_493 : decode cL_law 493 = .ok (.aload_n 0, 1) := by decide +kernel
theorem dL_law_494 : decode cL_law 494 = .ok (.iload_n 3, 1) := by decide +kernel
theorem dL_law_495 : decode cL_law 495 = .ok (.iconst 3, 1) := by decide +kernel
theorem dL_law_496 : decode cL_law 496 = .ok (.iadd, 1) := by decide +kernel
theorem dL_law_497 : decode cL_law 497 = .ok (.iaload, 1) := by decide +kernel
theorem dL_law_498 : decode cL_law 498 = .ok (.aload_n 0, 1) := by decide +kernel
theorem dL_law_499 : decode cL_law 499 = .ok (.iload_n 3, 1) := by decide +kernel
theorem dL_law_500 : decode cL_law 500 = .ok (.iconst 4, 1) := by decide +kernel
theorem dL_law_501 : decode cL_law 501 = .ok (.iadd, 1) := by decide +kernel
theorem dL_law_502 : decode cL_law 502 = .ok (.iaload, 1) := by decide +kernel
theorem dL_law_503 : decode cL_law 503 = .ok (.invokevirtual 69, 3) := by decide +kernel
theorem dL_law_506 : decode cL_law 506 = .ok (.if_icmp .eq 405, 3) := by decide +kernel
theorem dL_law_509 : decode cL_law 509 = .ok (.iconst 0, 1) := by decide +kernel
theorem dL_law_510 : decode cL_law 510 = .ok (.ireturn, 1) := by decide +kernel
theorem dL_law_511 : decode cL_law 511 = .ok (.aload_n 1, 1) := by decide +kernel
theorem dL_law_512 : decode cL_law 512 = .ok (.aload_n 0, 1) := by decide +kernel
theorem dL_law_513 : decode cL_law 513 = .ok (.iload_n 3, 1) := by decide +kernel
theorem dL_law_514 : decode cL_law 514 = .ok (.iconst 1, 1) := by decide +kernel
theorem dL_law_515 : decode cL_law 515 = .ok (.iadd, 1) := by decide +kernel
theorem dL_law_516 : decode cL_law 516 = .ok (.iaload, 1) := by decide +kernel
theorem dL_law_517 : decode cL_law 517 = .ok (.invokevirtual 70, 3) := by decide +kernel
theorem dL_law_520 : decode cL_law 520 = .ok (.aload_n 2, 1) := by decide +kernel
theorem dL_law_521 : decode cL_law 521 = .ok (.aload_n 0, 1) := by decide +kernel
theorem dL_law_522 : decode cL_law 522 = .ok (.iload_n 3, 1) := by decide +kernel
theorem dL_law_523 : decode cL_law 523 = .ok (.iconst 1, 1) := by decide +kernel
theorem dL_law_524 : decode cL_law 524 = .ok (.iadd, 1) := by decide +kernel
theorem dL_law_525 : decode cL_law 525 = .ok (.iaload, 1) := by decide +kernel
theorem dL_law_526 : decode cL_law 526 = .ok (.invokevirtual 73, 3) := by decide +kernel
theorem dL_law_529 : decode cL_law 529 = .ok (.if_icmp .eq 382, 3) := by decide +kernel
theorem dL_law_532 : decode cL_law 532 = .ok (.iconst 0, 1) := by decide +kernel
theorem dL_law_533 : decode cL_law 533 = .ok (.ireturn, 1) := by decide +kernel
theorem dL_law_534 : decode cL_law 534 = .ok (.aload_n 1, 1) := by decide +kernel
theorem dL_law_535 : decode cL_law 535 = .ok (.aload_n 0, 1) := by decide +kernel
theorem dL_law_536 : decode cL_law 536 = .ok (.iload_n 3, 1) := by decide +kernel
theorem dL_law_537 : decode cL_law 537 = .ok (.iconst 1, 1) := by decide +kernel
theorem dL_law_538 : decode cL_law 538 = .ok (.iadd, 1) := by decide +kernel
theorem dL_law_539 : decode cL_law 539 = .ok (.iaload, 1) := by decide +kernel
theorem dL_law_540 : decode cL_law 540 = .ok (.aload_n 0, 1) := by decide +kernel
theorem dL_law_541 : decode cL_law 541 = .ok (.iload_n 3, 1) := by decide +kernel
theorem dL_law_542 : decode cL_law 542 = .ok (.iconst 2, 1) := by decide +kernel
theorem dL_law_543 : decode cL_law 543 = .ok (.iadd, 1) := by decide +kernel
theorem dL_law_544 : decode cL_law 544 = .ok (.iaload, 1) := by decide +kernel
theorem dL_law_545 : decode cL_law 545 = .ok (.invokevirtual 74, 3) := by decide +kernel
theorem dL_law_548 : decode cL_law 548 = .ok (.aload_n 2, 1) := by decide +kernel
theorem dL_law_549 : decode cL_law 549 = .ok (.aload_n 0, 1) := by decide +kernel
theorem dL_law_550 : decode cL_law 550 = .ok (.iload_n 3, 1) := by decide +kernel
theorem dL_law_551 : decode cL_law 551 = .ok (.iconst 1, 1) := by decide +kernel
theorem dL_law_552 : decode cL_law 552 = .ok (.iadd, 1) := by decide +kernel
theorem dL_law_553 : decode cL_law 553 = .ok (.iaload, 1) := by decide +kernel
theorem dL_law_554 : decode cL_law 554 = .ok (.aload_n 0, 1) := by decide +kernel
theorem dL_law_555 : decode cL_law 555 = .ok (.iload_n 3, 1) := by decide +kernel
theorem dL_law_556 : decode cL_law 556 = .ok (.iconst 2, 1) := by decide +kernel
theorem dL_law_557 : decode cL_law 557 = .ok (.iadd, 1) := by decide +kernel
theorem dL_law_558 : decode cL_law 558 = .ok (.iaload, 1) := by decide +kernel
theorem dL_law_559 : decode cL_law 559 = .ok (.invokevirtual 77, 3) := by decide +kernel
theorem dL_law_562 : decode cL_law 562 = .ok (.if_icmp .eq 349, 3) := by decide +kernel
theorem dL_law_565 : decode cL_law 565 = .ok (.iconst 0, 1) := by decide +kernel
theorem dL_law_566 : decode cL_law 566 = .ok (.ireturn, 1) := by decide +kernel
theorem dL_law_567 : decode cL_law 567 = .ok (.aload_n 1, 1) := by decide +kernel
theorem dL_law_568 : decode cL_law 568 = .ok (.aload_n 0, 1) := by decide +kernel
theorem dL_law_569 : decode cL_law 569 = .ok (.iload_n 3, 1) := by decide +kernel
theorem dL_law_570 : decode cL_law 570 = .ok (.iconst 1, 1) := by decide +kernel
theorem dL_law_571 : decode cL_law 571 = .ok (.iadd, 1) := by decide +kernel
theorem dL_law_572 : decode cL_law 572 = .ok (.iaload, 1) := by decide +kernel
theorem dL_law_573 : decode cL_law 573 = .ok (.aload_n 0, 1) := by decide +kernel
theorem dL_law_574 : decode cL_law 574 = .ok (.iload_n 3, 1) := by decide +kernel
theorem dL_law_575 : decode cL_law 575 = .ok (.iconst 2, 1) := by decide +kernel
theorem dL_law_576 : decode cL_law 576 = .ok (.iadd, 1) := by decide +kernel
theorem dL_law_577 : decode cL_law 577 = .ok (.iaload, 1) := by decide +kernel
theorem dL_law_578 : decode cL_law 578 = .ok (.invokevirtual 78, 3) := by decide +kernel
theorem dL_law_581 : decode cL_law 581 = .ok (.aload_n 2, 1) := by decide +kernel
theorem dL_law_582 : decode cL_law 582 = .ok (.aload_n 0, 1) := by decide +kernel
theorem dL_law_583 : decode cL_law 583 = .ok (.iload_n 3, 1) := by decide +kernel
theorem dL_law_584 : decode cL_law 584 = .ok (.iconst 1, 1) := by decide +kernel
theorem dL_law_585 : decode cL_law 585 = .ok (.iadd, 1) := by decide +kernel
theorem dL_law_586 : decode cL_law 586 = .ok (.iaload, 1) := by decide +kernel
theorem dL_law_587 : decode cL_law 587 = .ok (.aload_n 0, 1) := by decide +kernel
theorem dL_law_588 : decode cL_law 588 = .ok (.iload_n 3, 1) := by decide +kernel
theorem dL_law_589 : decode cL_law 589 = .ok (.iconst 2, 1) := by decide +kernel
theorem dL_law_590 : decode cL_law 590 = .ok (.iadd, 1) := by decide +kernel
theorem dL_law_591 : decode cL_law 591 = .ok (.iaload, 1) := by decide +kernel
theorem dL_law_592 : decode cL_law 592 = .ok (.invokevirtual 81, 3) := by decide +kernel
theorem dL_law_595 : decode cL_law 595 = .ok (.if_icmp .eq 316, 3) := by decide +kernel
theorem dL_law_598 : decode cL_law 598 = .ok (.iconst 0, 1) := by decide +kernel
theorem dL_law_599 : decode cL_law 599 = .ok (.ireturn, 1) := by decide +kernel
theorem dL_law_600 : decode cL_law 600 = .ok (.aload_n 1, 1) := by decide +kernel
theorem dL_law_601 : decode cL_law 601 = .ok (.aload_n 0, 1) := by decide +kernel
theorem dL_law_602 : decode cL_law 602 = .ok (.iload_n 3, 1) := by decide +kernel
theorem dL_law_603 : decode cL_law 603 = .ok (.iconst 1, 1) := by decide +kernel
theorem dL_law_604 : decode cL_law 604 = .ok (.iadd, 1) := by decide +kernel
theorem dL_law_605 : decode cL_law 605 = .ok (.iaload, 1) := by decide +kernel
theorem dL_law_606 : decode cL_law 606 = .ok (.invokevirtual 82, 3) := by decide +kernel
theorem dL_law_609 : decode cL_law 609 = .ok (.aload_n 2, 1) := by decide +kernel
theorem dL_law_610 : decode cL_law 610 = .ok (.aload_n 0, 1) := by decide +kernel
theorem dL_law_611 : decode cL_law 611 = .ok (.iload_n 3, 1) := by decide +kernel
theorem dL_law_612 : decode cL_law 612 = .ok (.iconst 1, 1) := by decide +kernel
theorem dL_law_613 : decode cL_law 613 = .ok (.iadd, 1) := by decide +kernel
theorem dL_law_614 : decode cL_law 614 = .ok (.iaload, 1) := by decide +kernel
theorem dL_law_615 : decode cL_law 615 = .ok (.invokevirtual 85, 3) := by decide +kernel
theorem dL_law_618 : decode cL_law 618 = .ok (.if_icmp .eq 293, 3) := by decide +kernel
theorem dL_law_621 : decode cL_law 621 = .ok (.iconst 0, 1) := by decide +kernel
theorem dL_law_622 : decode cL_law 622 = .ok (.ireturn, 1) := by decide +kernel
theorem dL_law_623 : decode cL_law 623 = .ok (.aload_n 1, 1) := by decide +kernel
theorem dL_law_624 : decode cL_law 624 = .ok (.invokevirtual 86, 3) := by decide +kernel
theorem dL_law_627 : decode cL_law 627 = .ok (.aload_n 2, 1) := by decide +kernel
theorem dL_law_628 : decode cL_law 628 = .ok (.invokevirtual 89, 3) := by decide +kernel
theorem dL_law_631 : decode cL_law 631 = .ok (.if_icmp .eq 280, 3) := by decide +kernel
theorem dL_law_634 : decode cL_law 634 = .ok (.iconst 0, 1) := by decide +kernel
theorem dL_law_635 : decode cL_law 635 = .ok (.ireturn, 1) := by decide +kernel
theorem dL_law_636 : decode cL_law 636 = .ok (.aload_n 1, 1) := by decide +kernel
theorem dL_law_637 : decode cL_law 637 = .ok (.aload_n 0, 1) := by decide +kernel
theorem dL_law_638 : decode cL_law 638 = .ok (.iload_n 3, 1) := by decide +kernel
theorem dL_law_639 : decode cL_law 639 = .ok (.iconst 1, 1) := by decide +kernel
theorem dL_law_640 : decode cL_law 640 = .ok (.iadd, 1) := by decide +kernel
theorem dL_law_641 : decode cL_law 641 = .ok (.iaload, 1) := by decide +kernel
theorem dL_law_642 : decode cL_law 642 = .ok (.aload_n 0, 1) := by decide +kernel
theorem dL_law_643 : decode cL_law 643 = .ok (.iload_n 3, 1) := by decide +kernel
theorem dL_law_644 : decode cL_law 644 = .ok (.iconst 2, 1) := by decide +kernel
theorem dL_law_645 : decode cL_law 645 = .ok (.iadd, 1) := by decide +kernel
theorem dL_law_646 : decode cL_law 646 = .ok (.iaload, 1) := by decide +kernel
theorem dL_law_647 : decode cL_law 647 = .ok (.aload_n 0, 1) := by decide +kernel
theorem dL_law_648 : decode cL_law 648 = .ok (.iload_n 3, 1) := by decide +kernel
theorem dL_law_649 : decode cL_law 649 = .ok (.iconst 3, 1) := by decide +kernel
theorem dL_law_650 : decode cL_law 650 = .ok (.iadd, 1) := by decide +kernel
theorem dL_law_651 : decode cL_law 651 = .ok (.iaload, 1) := by decide +kernel
theorem dL_law_652 : decode cL_law 652 = .ok (.invokevirtual 90, 3) := by decide +kernel
theorem dL_law_655 : decode cL_law 655 = .ok (.aload_n 2, 1) := by decide +kernel
theorem dL_law_656 : decode cL_law 656 = .ok (.aload_n 0, 1) := by decide +kernel
theorem dL_law_657 : decode cL_law 657 = .ok (.iload_n 3, 1) := by decide +kernel
theorem dL_law_658 : decode cL_law 658 = .ok (.iconst 1, 1) := by decide +kernel
theorem dL_law_659 : decode cL_law 659 = .ok (.iadd, 1) := by decide +kernel
theorem dL_law_660 : decode cL_law 660 = .ok (.iaload, 1) := by decide +kernel
theorem dL_law_661 : decode cL_law 661 = .ok (.aload_n 0, 1) := by decide +kernel
theorem dL_law_662 : decode cL_law 662 = .ok (.iload_n 3, 1) := by decide +kernel
theorem dL_law_663 : decode cL_law 663 = .ok (.iconst 2, 1) := by decide +kernel
theorem dL_law_664 : decode cL_law 664 = .ok (.iadd, 1) := by decide +kernel
theorem dL_law_665 : decode cL_law 665 = .ok (.iaload, 1) := by decide +kernel
theorem dL_law_666 : decode cL_law 666 = .ok (.aload_n 0, 1) := by decide +kernel
theorem dL_law_667 : decode cL_law 667 = .ok (.iload_n 3, 1) := by decide +kernel
theorem dL_law_668 : decode cL_law 668 = .ok (.iconst 3, 1) := by decide +kernel
theorem dL_law_669 : decode cL_law 669 = .ok (.iadd, 1) := by decide +kernel
theorem dL_law_670 : decode cL_law 670 = .ok (.iaload, 1) := by decide +kernel
theorem dL_law_671 : decode cL_law 671 = .ok (.invokevirtual 93, 3) := by decide +kernel
theorem dL_law_674 : decode cL_law 674 = .ok (.if_icmp .eq 237, 3) := by decide +kernel
theorem dL_law_677 : decode cL_law 677 = .ok (.iconst 0, 1) := by decide +kernel
theorem dL_law_678 : decode cL_law 678 = .ok (.ireturn, 1) := by decide +kernel
theorem dL_law_679 : decode cL_law 679 = .ok (.aload_n 1, 1) := by decide +kernel
theorem dL_law_680 : decode cL_law 680 = .ok (.aload_n 0, 1) := by decide +kernel
theorem dL_law_681 : decode cL_law 681 = .ok (.iload_n 3, 1) := by decide +kernel
theorem dL_law_682 : decode cL_law 682 = .ok (.iconst 1, 1) := by decide +kernel
theorem dL_law_683 : decode cL_law 683 = .ok (.iadd, 1) := by decide +kernel
theorem dL_law_684 : decode cL_law 684 = .ok (.iaload, 1) := by decide +kernel
theorem dL_law_685 : decode cL_law 685 = .ok (.invokevirtual 94, 3) := by decide +kernel
theorem dL_law_688 : decode cL_law 688 = .ok (.aload_n 2, 1) := by decide +kernel
theorem dL_law_689 : decode cL_law 689 = .ok (.aload_n 0, 1) := by decide +kernel
theorem dL_law_690 : decode cL_law 690 = .ok (.iload_n 3, 1) := by decide +kernel
theorem dL_law_691 : decode cL_law 691 = .ok (.iconst 1, 1) := by decide +kernel
theorem dL_law_692 : decode cL_law 692 = .ok (.iadd, 1) := by decide +kernel
theorem dL_law_693 : decode cL_law 693 = .ok (.iaload, 1) := by decide +kernel
theorem dL_law_694 : decode cL_law 694 = .ok (.invokevirtual 97, 3) := by decide +kernel
theorem dL_law_697 : decode cL_law 697 = .ok (.if_icmp .eq 214, 3) := by decide +kernel
theorem dL_law_700 : decode cL_law 700 = .ok (.iconst 0, 1) := by decide +kernel
theorem dL_law_701 : decode cL_law 701 = .ok (.ireturn, 1) := by decide +kernel
theorem dL_law_702 : decode cL_law 702 = .ok (.aload_n 1, 1) := by decide +kernel
theorem dL_law_703 : decode cL_law 703 = .ok (.aload_n 0, 1) := by decide +kernel
theorem dL_law_704 : decode cL_law 704 = .ok (.iload_n 3, 1) := by decide +kernel
theorem dL_law_705 : decode cL_law 705 = .ok (.iconst 1, 1) := by decide +kernel
theorem dL_law_706 : decode cL_law 706 = .ok (.iadd, 1) := by decide +kernel
theorem dL_law_707 : decode cL_law 707 = .ok (.iaload, 1) := by decide +kernel
theorem dL_law_708 : decode cL_law 708 = .ok (.aload_n 0, 1) := by decide +kernel
theorem dL_law_709 : decode cL_law 709 = .ok (.iload_n 3, 1) := by decide +kernel
theorem dL_law_710 : decode cL_law 710 = .ok (.iconst 2, 1) := by decide +kernel
theorem dL_law_711 : decode cL_law 711 = .ok (.iadd, 1) := by decide +kernel
theorem dL_law_712 : decode cL_law 712 = .ok (.iaload, 1) := by decide +kernel
theorem dL_law_713 : decode cL_law 713 = .ok (.aload_n 0, 1) := by decide +kernel
theorem dL_law_714 : decode cL_law 714 = .ok (.iload_n 3, 1) := by decide +kernel
theorem dL_law_715 : decode cL_law 715 = .ok (.iconst 3, 1) := by decide +kernel
theorem dL_law_716 : decode cL_law 716 = .ok (.iadd, 1) := by decide +kernel
theorem dL_law_717 : decode cL_law 717 = .ok (.iaload, 1) := by decide +kernel
theorem dL_law_718 : decode cL_law 718 = .ok (.aload_n 0, 1) := by decide +kernel
theorem dL_law_719 : decode cL_law 719 = .ok (.iload_n 3, 1) := by decide +kernel
theorem dL_law_720 : decode cL_law 720 = .ok (.iconst 4, 1) := by decide +kernel
theorem dL_law_721 : decode cL_law 721 = .ok (.iadd, 1) := by decide +kernel
theorem dL_law_722 : decode cL_law 722 = .ok (.iaload, 1) := by decide +kernel
theorem dL_law_723 : decode cL_law 723 = .ok (.invokevirtual 98, 3) := by decide +kernel
theorem dL_law_726 : decode cL_law 726 = .ok (.aload_n 2, 1) := by decide +kernel
theorem dL_law_727 : decode cL_law 727 = .ok (.aload_n 0, 1) := by decide +kernel
theorem dL_law_728 : decode cL_law 728 = .ok (.iload_n 3, 1) := by decide +kernel
theorem dL_law_729 : decode cL_law 729 = .ok (.iconst 1, 1) := by decide +kernel
theorem dL_law_730 : decode cL_law 730 = .ok (.iadd, 1) := by decide +kernel
theorem dL_law_731 : decode cL_law 731 = .ok (.iaload, 1) := by decide +kernel
theorem dL_law_732 : decode cL_law 732 = .ok (.aload_n 0, 1) := by decide +kernel
theorem dL_law_733 : decode cL_law 733 = .ok (.iload_n 3, 1) := by decide +kernel
theorem dL_law_734 : decode cL_law 734 = .ok (.iconst 2, 1) := by decide +kernel
theorem dL_law_735 : decode cL_law 735 = .ok (.iadd, 1) := by decide +kernel
theorem dL_law_736 : decode cL_law 736 = .ok (.iaload, 1) := by decide +kernel
theorem dL_law_737 : decode cL_law 737 = .ok (.aload_n 0, 1) := by decide +kernel
theorem dL_law_738 : decode cL_law 738 = .ok (.iload_n 3, 1) := by decide +kernel
theorem dL_law_739 : decode cL_law 739 = .ok (.iconst 3, 1) := by decide +kernel
theorem dL_law_740 : decode cL_law 740 = .ok (.iadd, 1) := by decide +kernel
theorem dL_law_741 : decode cL_law 741 = .ok (.iaload, 1) := by decide +kernel
theorem dL_law_742 : decode cL_law 742 = .ok (.aload_n 0, 1) := by decide +kernel
theorem dL_law_743 : decode cL_law 743 = .ok (.iload_n 3, 1) := by decide +kernel
theorem dL_law_744 : decode cL_law 744 = .ok (.iconst 4, 1) := by decide +kernel
theorem dL_law_745 : decode cL_law 745 = .ok (.iadd, 1) := by decide +kernel
theorem dL_law_746 : decode cL_law 746 = .ok (.iaload, 1) := by decide +kernel
theorem dL_law_747 : decode cL_law 747 = .ok (.invokevirtual 101, 3) := by decide +kernel
theorem dL_law_750 : decode cL_law 750 = .ok (.if_icmp .eq 161, 3) := by decide +kernel
theorem dL_law_753 : decode cL_law 753 = .ok (.iconst 0, 1) := by decide +kernel
theorem dL_law_754 : decode cL_law 754 = .ok (.ireturn, 1) := by decide +kernel
theorem dL_law_755 : decode cL_law 755 = .ok (.aload_n 1, 1) := by decide +kernel
theorem dL_law_756 : decode cL_law 756 = .ok (.aload_n 0, 1) := by decide +kernel
theorem dL_law_757 : decode cL_law 757 = .ok (.iload_n 3, 1) := by decide +kernel
theorem dL_law_758 : decode cL_law 758 = .ok (.iconst 1, 1) := by decide +kernel
theorem dL_law_759 : decode cL_law 759 = .ok (.iadd, 1) := by decide +kernel
theorem dL_law_760 : decode cL_law 760 = .ok (.iaload, 1) := by decide +kernel
theorem dL_law_761 : decode cL_law 761 = .ok (.aload_n 0, 1) := by decide +kernel
theorem dL_law_762 : decode cL_law 762 = .ok (.iload_n 3, 1) := by decide +kernel
theorem dL_law_763 : decode cL_law 763 = .ok (.iconst 2, 1) := by decide +kernel
theorem dL_law_764 : decode cL_law 764 = .ok (.iadd, 1) := by decide +kernel
theorem dL_law_765 : decode cL_law 765 = .ok (.iaload, 1) := by decide +kernel
theorem dL_law_766 : decode cL_law 766 = .ok (.aload_n 0, 1) := by decide +kernel
theorem dL_law_767 : decode cL_law 767 = .ok (.iload_n 3, 1) := by decide +kernel
theorem dL_law_768 : decode cL_law 768 = .ok (.iconst 3, 1) := by decide +kernel
theorem dL_law_769 : decode cL_law 769 = .ok (.iadd, 1) := by decide +kernel
theorem dL_law_770 : decode cL_law 770 = .ok (.iaload, 1) := by decide +kernel
theorem dL_law_771 : decode cL_law 771 = .ok (.invokevirtual 102, 3) := by decide +kernel
theorem dL_law_774 : decode cL_law 774 = .ok (.aload_n 2, 1) := by decide +kernel
theorem dL_law_775 : decode cL_law 775 = .ok (.aload_n 0, 1) := by decide +kernel
theorem dL_law_776 : decode cL_law 776 = .ok (.iload_n 3, 1) := by decide +kernel
theorem dL_law_777 : decode cL_law 777 = .ok (.iconst 1, 1) := by decide +kernel
theorem dL_law_778 : decode cL_law 778 = .ok (.iadd, 1) := by decide +kernel
theorem dL_law_779 : decode cL_law 779 = .ok (.iaload, 1) := by decide +kernel
theorem dL_law_780 : decode cL_law 780 = .ok (.aload_n 0, 1) := by decide +kernel
theorem dL_law_781 : decode cL_law 781 = .ok (.iload_n 3, 1) := by decide +kernel
theorem dL_law_782 : decode cL_law 782 = .ok (.iconst 2, 1) := by decide +kernel
theorem dL_law_783 : decode cL_law 783 = .ok (.iadd, 1) := by decide +kernel
theorem dL_law_784 : decode cL_law 784 = .ok (.iaload, 1) := by decide +kernel
theorem dL_law_785 : decode cL_law 785 = .ok (.aload_n 0, 1) := by decide +kernel
theorem dL_law_786 : decode cL_law 786 = .ok (.iload_n 3, 1) := by decide +kernel
theorem dL_law_787 : decode cL_law 787 = .ok (.iconst 3, 1) := by decide +kernel
theorem dL_law_788 : decode cL_law 788 = .ok (.iadd, 1) := by decide +kernel
theorem dL_law_789 : decode cL_law 789 = .ok (.iaload, 1) := by decide +kernel
theorem dL_law_790 : decode cL_law 790 = .ok (.invokevirtual 105, 3) := by decide +kernel
theorem dL_law_793 : decode cL_law 793 = .ok (.if_icmp .eq 118, 3) := by decide +kernel
theorem dL_law_796 : decode cL_law 796 = .ok (.iconst 0, 1) := by decide +kernel
theorem dL_law_797 : decode cL_law 797 = .ok (.ireturn, 1) := by decide +kernel
theorem dL_law_798 : decode cL_law 798 = .ok (.aload_n 1, 1) := by decide +kernel
theorem dL_law_799 : decode cL_law 799 = .ok (.aload_n 0, 1) := by decide +kernel
theorem dL_law_800 : decode cL_law 800 = .ok (.iload_n 3, 1) := by decide +kernel
theorem dL_law_801 : decode cL_law 801 = .ok (.iconst 1, 1) := by decide +kernel
theorem dL_law_802 : decode cL_law 802 = .ok (.iadd, 1) := by decide +kernel
theorem dL_law_803 : decode cL_law 803 = .ok (.iaload, 1) := by decide +kernel
theorem dL_law_804 : decode cL_law 804 = .ok (.aload_n 0, 1) := by decide +kernel
theorem dL_law_805 : decode cL_law 805 = .ok (.iload_n 3, 1) := by decide +kernel
theorem dL_law_806 : decode cL_law 806 = .ok (.iconst 2, 1) := by decide +kernel
theorem dL_law_807 : decode cL_law 807 = .ok (.iadd, 1) := by decide +kernel
theorem dL_law_808 : decode cL_law 808 = .ok (.iaload, 1) := by decide +kernel
theorem dL_law_809 : decode cL_law 809 = .ok (.aload_n 0, 1) := by decide +kernel
theorem dL_law_810 : decode cL_law 810 = .ok (.iload_n 3, 1) := by decide +kernel
theorem dL_law_811 : decode cL_law 811 = .ok (.iconst 3, 1) := by decide +kernel
theorem dL_law_812 : decode cL_law 812 = .ok (.iadd, 1) := by decide +kernel
theorem dL_law_813 : decode cL_law 813 = .ok (.iaload, 1) := by decide +kernel
theorem dL_law_814 : decode cL_law 814 = .ok (.aload_n 0, 1) := by decide +kernel
theorem dL_law_815 : decode cL_law 815 = .ok (.iload_n 3, 1) := by decide +kernel
theorem dL_law_816 : decode cL_law 816 = .ok (.iconst 4, 1) := by decide +kernel
theorem dL_law_817 : decode cL_law 817 = .ok (.iadd, 1) := by decide +kernel
theorem dL_law_818 : decode cL_law 818 = .ok (.iaload, 1) := by decide +kernel
theorem dL_law_819 : decode cL_law 819 = .ok (.aload_n 0, 1) := by decide +kernel
theorem dL_law_820 : decode cL_law 820 = .ok (.iload_n 3, 1) := by decide +kernel
theorem dL_law_821 : decode cL_law 821 = .ok (.iconst 5, 1) := by decide +kernel
theorem dL_law_822 : decode cL_law 822 = .ok (.iadd, 1) := by decide +kernel
theorem dL_law_823 : decode cL_law 823 = .ok (.iaload, 1) := by decide +kernel
theorem dL_law_824 : decode cL_law 824 = .ok (.invokevirtual 106, 3) := by decide +kernel
theorem dL_law_827 : decode cL_law 827 = .ok (.aload_n 2, 1) := by decide +kernel
theorem dL_law_828 : decode cL_law 828 = .ok (.aload_n 0, 1) := by decide +kernel
theorem dL_law_829 : decode cL_law 829 = .ok (.iload_n 3, 1) := by decide +kernel
theorem dL_law_830 : decode cL_law 830 = .ok (.iconst 1, 1) := by decide +kernel
theorem dL_law_831 : decode cL_law 831 = .ok (.iadd, 1) := by decide +kernel
theorem dL_law_832 : decode cL_law 832 = .ok (.iaload, 1) := by decide +kernel
theorem dL_law_833 : decode cL_law 833 = .ok (.aload_n 0, 1) := by decide +kernel
theorem dL_law_834 : decode cL_law 834 = .ok (.iload_n 3, 1) := by decide +kernel
theorem dL_law_835 : decode cL_law 835 = .ok (.iconst 2, 1) := by decide +kernel
theorem dL_law_836 : decode cL_law 836 = .ok (.iadd, 1) := by decide +kernel
theorem dL_law_837 : decode cL_law 837 = .ok (.iaload, 1) := by decide +kernel
theorem dL_law_838 : decode cL_law 838 = .ok (.aload_n 0, 1) := by decide +kernel
theorem dL_law_839 : decode cL_law 839 = .ok (.iload_n 3, 1) := by decide +kernel
theorem dL_law_840 : decode cL_law 840 = .ok (.iconst 3, 1) := by decide +kernel
theorem dL_law_841 : decode cL_law 841 = .ok (.iadd, 1) := by decide +kernel
theorem dL_law_842 : decode cL_law 842 = .ok (.iaload, 1) := by decide +kernel
theorem dL_law_843 : decode cL_law 843 = .ok (.aload_n 0, 1) := by decide +kernel
theorem dL_law_844 : decode cL_law 844 = .ok (.iload_n 3, 1) := by decide +kernel
theorem dL_law_845 : decode cL_law 845 = .ok (.iconst 4, 1) := by decide +kernel
theorem dL_law_846 : decode cL_law 846 = .ok (.iadd, 1) := by decide +kernel
theorem dL_law_847 : decode cL_law 847 = .ok (.iaload, 1) := by decide +kernel
theorem dL_law_848 : decode cL_law 848 = .ok (.aload_n 0, 1) := by decide +kernel
theorem dL_law_849 : decode cL_law 849 = .ok (.iload_n 3, 1) := by decide +kernel
theorem dL_law_850 : decode cL_law 850 = .ok (.iconst 5, 1) := by decide +kernel
theorem dL_law_851 : decode cL_law 851 = .ok (.iadd, 1) := by decide +kernel
theorem dL_law_852 : decode cL_law 852 = .ok (.iaload, 1) := by decide +kernel
theorem dL_law_853 : decode cL_law 853 = .ok (.invokevirtual 110, 3) := by decide +kernel
theorem dL_law_856 : decode cL_law 856 = .ok (.if_icmp .eq 55, 3) := by decide +kernel
theorem dL_law_859 : decode cL_law 859 = .ok (.iconst 0, 1) := by decide +kernel
theorem dL_law_860 : decode cL_law 860 = .ok (.ireturn, 1) := by decide +kernel
theorem dL_law_861 : decode cL_law 861 = .ok (.aload_n 1, 1) := by decide +kernel
theorem dL_law_862 : decode cL_law 862 = .ok (.invokevirtual 111, 3) := by decide +kernel
theorem dL_law_865 : decode cL_law 865 = .ok (.aload_n 2, 1) := by decide +kernel
theorem dL_law_866 : decode cL_law 866 = .ok (.invokevirtual 114, 3) := by decide +kernel
theorem dL_law_869 : decode cL_law 869 = .ok (.if_icmp .eq 42, 3) := by decide +kernel
theorem dL_law_872 : decode cL_law 872 = .ok (.iconst 0, 1) := by decide +kernel
theorem dL_law_873 : decode cL_law 873 = .ok (.ireturn, 1) := by decide +kernel
theorem dL_law_874 : decode cL_law 874 = .ok (.aload_n 1, 1) := by decide +kernel
theorem dL_law_875 : decode cL_law 875 = .ok (.aload_n 0, 1) := by decide +kernel
theorem dL_law_876 : decode cL_law 876 = .ok (.iload_n 3, 1) := by decide +kernel
theorem dL_law_877 : decode cL_law 877 = .ok (.iconst 1, 1) := by decide +kernel
theorem dL_law_878 : decode cL_law 878 = .ok (.iadd, 1) := by decide +kernel
theorem dL_law_879 : decode cL_law 879 = .ok (.iaload, 1) := by decide +kernel
theorem dL_law_880 : decode cL_law 880 = .ok (.invokevirtual 115, 3) := by decide +kernel
theorem dL_law_883 : decode cL_law 883 = .ok (.aload_n 2, 1) := by decide +kernel
theorem dL_law_884 : decode cL_law 884 = .ok (.aload_n 0, 1) := by decide +kernel
theorem dL_law_885 : decode cL_law 885 = .ok (.iload_n 3, 1) := by decide +kernel
theorem dL_law_886 : decode cL_law 886 = .ok (.iconst 1, 1) := by decide +kernel
theorem dL_law_887 : decode cL_law 887 = .ok (.iadd, 1) := by decide +kernel
theorem dL_law_888 : decode cL_law 888 = .ok (.iaload, 1) := by decide +kernel
theorem dL_law_889 : decode cL_law 889 = .ok (.invokevirtual 118, 3) := by decide +kernel
theorem dL_law_892 : decode cL_law 892 = .ok (.if_icmp .eq 19, 3) := by decide +kernel
theorem dL_law_895 : decode cL_law 895 = .ok (.iconst 0, 1) := by decide +kernel
theorem dL_law_896 : decode cL_law 896 = .ok (.ireturn, 1) := by decide +kernel
theorem dL_law_897 : decode cL_law 897 = .ok (.aload_n 1, 1) := by decide +kernel
theorem dL_law_898 : decode cL_law 898 = .ok (.invokevirtual 119, 3) := by decide +kernel
theorem dL_law_901 : decode cL_law 901 = .ok (.aload_n 2, 1) := by decide +kernel
theorem dL_law_902 : decode cL_law 902 = .ok (.invokevirtual 123, 3) := by decide +kernel
theorem dL_law_905 : decode cL_law 905 = .ok (.lcmp, 1) := by decide +kernel
theorem dL_law_906 : decode cL_law 906 = .ok (.ifCond .eq 5, 3) := by decide +kernel
theorem dL_law_909 : decode cL_law 909 = .ok (.iconst 0, 1) := by decide +kernel
theorem dL_law_910 : decode cL_law 910 = .ok (.ireturn, 1) := by decide +kernel
theorem dL_law_911 : decode cL_law 911 = .ok (.iinc 3 6, 3) := by decide +kernel
theorem dL_law_914 : decode cL_law 914 = .ok (.goto (-896), 3) := by decide +kernel
theorem dL_law_917 : decode cL_law 917 = .ok (.iconst 1, 1) := by decide +kernel
theorem dL_law_918 : decode cL_law 918 = .ok (.ireturn, 1) := by decide +kernel
end
section
/-! the layer: one pool of 114 cells; all ints of it are F cell place; a method by its model -/
def mm_G : List Cond := lw_tbl.filter goodWord
theorem mm_in {w : Cond} (h : w ∈ lw_tbl) (hg : goodWord w = true) : w ∈ mm_G := List.mem_filter.mpr ⟨h, hg⟩
theorem mm_good {c c2 : Cond} (h : c2 ∈ mm_G) : GoodIn (c :: mm_G) (c2 :: mm_G) := by
  intro w hw
  have h1 : w ∈ mm_G := by
    rcases List.mem_cons.mp hw with h2 | h2
    · rw [h2]; exact h
    · exact h2
  exact ⟨List.mem_cons_of_mem _ h1, good_of_word (List.mem_filter.mp h1).2⟩
theorem mm_good0 {c2 : Cond} (h : c2 ∈ mm_G) : GoodIn mm_G (c2 :: mm_G) := by
  intro w hw
  have h1 : w ∈ mm_G := by
    rcases List.mem_cons.mp hw with h2 | h2
    · rw [h2]; exact h
    · exact h2
  exact ⟨h1, good_of_word (List.mem_filter.mp h1).2⟩
abbrev mmS : Type := Nat → Nat → Int32
abbrev mmK : Type := va_G × ClassId × ClassId × ClassId × ClassId × (Nat → Nat)
abbrev mmad (k : mmK) : Nat → Nat := k.2.2.2.2.2
def mm_ty (k : mmK) : List (ClassId × FieldType) := [(k.2.1, .int), (k.2.2.1, .boolean), (k.2.2.2.1, .object "ServerLine$Rule"), (k.2.2.2.2.1, .array .int)]
def mm_len (i : Nat) : Nat := ([0, 0, 6, 3, 216, 56, 0, 0, 40, 40, 40, 40, 4, 4, 0, 40, 40, 0, 3, 56, 56, 3, 1, 0, 3, 0, 3, 0, 3, 0, 0, 3, 0, 3, 0, 3, 0, 3, 0, 56, 56, 56, 56, 56, 56, 56, 56, 56, 56, 56, 56, 56, 56, 56, 56, 56, 56, 56, 56, 56, 56, 56, 56, 56, 56, 56, 56, 56, 56, 56, 56, 56, 56, 56, 56, 56, 56, 56, 56, 56, 0, 0, 3, 0, 3, 3, 0, 0, 3, 0, 3, 0, 3, 56, 56, 3, 3, 0, 6, 3, 40, 8856, 40, 3, 216, 216, 3, 3, 3, 0, 4, 4, 160, 40] : List Nat).getD i 0
def mm_tab (q j : Nat) : Nat := if q = 7 then 8 + j else if q = 38 then 39 + j else if q = 29 then ([30, 32, 17, 34, 23] : List Nat).getD j 0 else ([87, 89, 91] : List Nat).getD j 0
def mm_lenR (q : Nat) : Nat := if q = 7 then 4 else if q = 38 then 41 else if q = 29 then 5 else if q = 86 then 3 else 0
def mm_obj (k : mmK) (i : Nat) (f : Nat → Int32) : va_E :=
  if i = 0 then .inr (10, [.ref (mmad k 1), .ref (mmad k 6), .ref (mmad k 14), .ref (mmad k 29), .ref (mmad k 17), .ref (mmad k 23), .ref (mmad k 36), .ref (mmad k 80), .ref (mmad k 83)]) else
  if i = 1 then .inr (3, [.int (f 0), .int (f 1), .int (f 2), .int (f 3), .ref (mmad k 2), .ref (mmad k 3), .ref (mmad k 4), .ref (mmad k 5)]) else
  if i = 6 then .inr (7, [.ref (mmad k 7), .ref (mmad k 12), .ref (mmad k 13), .int (f 3)]) else
  if i = 14 then .inr (6, [.ref (mmad k 15), .ref (mmad k 16), .int (f 2)]) else
  if i = 17 then .inr (8, [.ref (mmad k 1), .ref (mmad k 18), .int (f 2), .int (f 3), .ref (mmad k 22), .int (f 5), .int (f 6), .ref (mmad k (f 7).toNatClampNeg), .ref (mmad k (f 8).toNatClampNeg), .ref (mmad k 21)]) else
  if i = 23 then .inr (2, [.ref (mmad k 1), .ref (mmad k 24), .int (f 2), .int (f 3), .ref (mmad k 25), .ref (mmad k 27), .int (f 6)]) else
  if i = 25 then .inr (1, [.ref (mmad k 1), .ref (mmad k 26), .int (f 2), .int (f 3)]) else
  if i = 27 then .inr (5, [.ref (mmad k 1), .ref (mmad k 28), .int (f 2), .int (f 3), .int (f 4)]) else
  if i = 30 then .inr (5, [.ref (mmad k 1), .ref (mmad k 31), .int (f 2), .int (f 3), .int (f 4)]) else
  if i = 32 then .inr (1, [.ref (mmad k 1), .ref (mmad k 33), .int (f 2), .int (f 3)]) else
  if i = 34 then .inr (5, [.ref (mmad k 1), .ref (mmad k 35), .int (f 2), .int (f 3), .int (f 4)]) else
  if i = 36 then .inr (0, [.ref (mmad k 1), .ref (mmad k 37), .int (f 2), .int (f 3), .ref (mmad k 38), .int (f 5), .int (f 6), .int (f 7)]) else
  if i = 80 then .inr (4, [.ref (mmad k 1), .ref (mmad k 81), .ref (mmad k 36)]) else
  if i = 81 then .inr (1, [.ref (mmad k 1), .ref (mmad k 82), .int (f 2), .int (f 3)]) else
  if i = 83 then .inr (9, [.ref (mmad k 1), .ref (mmad k 86), .ref (mmad k 84), .ref (mmad k 85), .int (f 4), .int (f 5), .int (f 6)]) else
  if i = 87 then .inr (5, [.ref (mmad k 1), .ref (mmad k 88), .int (f 2), .int (f 3), .int (f 4)]) else
  if i = 89 then .inr (1, [.ref (mmad k 1), .ref (mmad k 90), .int (f 2), .int (f 3)]) else
  if i = 91 then .inr (8, [.ref (mmad k 1), .ref (mmad k 92), .int (f 2), .int (f 3), .ref (mmad k 96), .int (f 5), .int (f 6), .ref (mmad k (f 7).toNatClampNeg), .ref (mmad k (f 8).toNatClampNeg), .ref (mmad k 95)]) else
  if i = 97 then .inr (11, [.int (f 0), .ref (mmad k 98), .int (f 2), .ref (mmad k 99), .int (f 4), .int (f 5), .ref (mmad k 100), .ref (mmad k 101), .ref (mmad k 102), .ref (mmad k 103), .int (f 10), .int (f 11), .int (f 12), .ref (mmad k 104), .ref (mmad k 105), .ref (mmad k 106), .ref (mmad k 107), .ref (mmad k 108), .int (f 18), .int (f 19), .int (f 20), .int (f 21), .int (f 22), .ref (mmad k 109), .ref (mmad k 110), .ref (mmad k 111), .ref (mmad k 112), .ref (mmad k 113), .int (f 28)]) else
  if i = 7 then .inl (k.2.2.2.2.1, 4, .inr (.inr (.inr (.inr (fun j => some (mmad k (mm_tab 7 j))))))) else
  if i = 29 then .inl (k.2.2.2.1, 5, .inr (.inr (.inr (.inr (fun j => some (mmad k (mm_tab 29 j))))))) else
  if i = 38 then .inl (k.2.2.2.2.1, 41, .inr (.inr (.inr (.inr (fun j => some (mmad k (mm_tab 38 j))))))) else
  if i = 86 then .inl (k.2.2.2.1, 3, .inr (.inr (.inr (.inr (fun j => some (mmad k (mm_tab 86 j))))))) else
  .inl (k.2.2.1, 4, .inl f)
def mm_cell (k : mmK) (i : Nat) (f : Nat → Int32) : va_E := if mm_len i = 0 then mm_obj k i f else .inl (k.2.1, mm_len i, .inl f)
def mm_W (k : mmK) (F : mmS) : va_W := (List.range 114).map (fun i => (mmad k i, mm_cell k i (F i)))
theorem mc_0 (k : mmK) (f : Nat → Int32) : mm_cell k 0 f = .inr (10, [.ref (mmad k 1), .ref (mmad k 6), .ref (mmad k 14), .ref (mmad k 29), .ref (mmad k 17), .ref (mmad k 23), .ref (mmad k 36), .ref (mmad k 80), .ref (mmad k 83)]) := rfl
theorem mc_1 (k : mmK) (f : Nat → Int32) : mm_cell k 1 f = .inr (3, [.int (f 0), .int (f 1), .int (f 2), .int (f 3), .ref (mmad k 2), .ref (mmad k 3), .ref (mmad k 4), .ref (mmad k 5)]) := rfl
theorem mc_6 (k : mmK) (f : Nat → Int32) : mm_cell k 6 f = .inr (7, [.ref (mmad k 7), .ref (mmad k 12), .ref (mmad k 13), .int (f 3)]) := rfl
theorem mc_14 (k : mmK) (f : Nat → Int32) : mm_cell k 14 f = .inr (6, [.ref (mmad k 15), .ref (mmad k 16), .int (f 2)]) := rfl
theorem mc_17 (k : mmK) (f : Nat → Int32) : mm_cell k 17 f = .inr (8, [.ref (mmad k 1), .ref (mmad k 18), .int (f 2), .int (f 3), .ref (mmad k 22), .int (f 5), .int (f 6), .ref (mmad k (f 7).toNatClampNeg), .ref (mmad k (f 8).toNatClampNeg), .ref (mmad k 21)]) := rfl
theorem mc_23 (k : mmK) (f : Nat → Int32) : mm_cell k 23 f = .inr (2, [.ref (mmad k 1), .ref (mmad k 24), .int (f 2), .int (f 3), .ref (mmad k 25), .ref (mmad k 27), .int (f 6)]) := rfl
theorem mc_25 (k : mmK) (f : Nat → Int32) : mm_cell k 25 f = .inr (1, [.ref (mmad k 1), .ref (mmad k 26), .int (f 2), .int (f 3)]) := rfl
theorem mc_27 (k : mmK) (f : Nat → Int32) : mm_cell k 27 f = .inr (5, [.ref (mmad k 1), .ref (mmad k 28), .int (f 2), .int (f 3), .int (f 4)]) := rfl
theorem mc_30 (k : mmK) (f : Nat → Int32) : mm_cell k 30 f = .inr (5, [.ref (mmad k 1), .ref (mmad k 31), .int (f 2), .int (f 3), .int (f 4)]) := rfl
theorem mc_32 (k : mmK) (f : Nat → Int32) : mm_cell k 32 f = .inr (1, [.ref (mmad k 1), .ref (mmad k 33), .int (f 2), .int (f 3)]) := rfl
theorem mc_34 (k : mmK) (f : Nat → Int32) : mm_cell k 34 f = .inr (5, [.ref (mmad k 1), .ref (mmad k 35), .int (f 2), .int (f 3), .int (f 4)]) := rfl
theorem mc_36 (k : mmK) (f : Nat → Int32) : mm_cell k 36 f = .inr (0, [.ref (mmad k 1), .ref (mmad k 37), .int (f 2), .int (f 3), .ref (mmad k 38), .int (f 5), .int (f 6), .int (f 7)]) := rfl
theorem mc_80 (k : mmK) (f : Nat → Int32) : mm_cell k 80 f = .inr (4, [.ref (mmad k 1), .ref (mmad k 81), .ref (mmad k 36)]) := rfl
theorem mc_81 (k : mmK) (f : Nat → Int32) : mm_cell k 81 f = .inr (1, [.ref (mmad k 1), .ref (mmad k 82), .int (f 2), .int (f 3)]) := rfl
theorem mc_83 (k : mmK) (f : Nat → Int32) : mm_cell k 83 f = .inr (9, [.ref (mmad k 1), .ref (mmad k 86), .ref (mmad k 84), .ref (mmad k 85), .int (f 4), .int (f 5), .int (f 6)]) := rfl
theorem mc_87 (k : mmK) (f : Nat → Int32) : mm_cell k 87 f = .inr (5, [.ref (mmad k 1), .ref (mmad k 88), .int (f 2), .int (f 3), .int (f 4)]) := rfl
theorem mc_89 (k : mmK) (f : Nat → Int32) : mm_cell k 89 f = .inr (1, [.ref (mmad k 1), .ref (mmad k 90), .int (f 2), .int (f 3)]) := rfl
theorem mc_91 (k : mmK) (f : Nat → Int32) : mm_cell k 91 f = .inr (8, [.ref (mmad k 1), .ref (mmad k 92), .int (f 2), .int (f 3), .ref (mmad k 96), .int (f 5), .int (f 6), .ref (mmad k (f 7).toNatClampNeg), .ref (mmad k (f 8).toNatClampNeg), .ref (mmad k 95)]) := rfl
theorem mc_97 (k : mmK) (f : Nat → Int32) : mm_cell k 97 f = .inr (11, [.int (f 0), .ref (mmad k 98), .int (f 2), .ref (mmad k 99), .int (f 4), .int (f 5), .ref (mmad k 100), .ref (mmad k 101), .ref (mmad k 102), .ref (mmad k 103), .int (f 10), .int (f 11), .int (f 12), .ref (mmad k 104), .ref (mmad k 105), .ref (mmad k 106), .ref (mmad k 107), .ref (mmad k 108), .int (f 18), .int (f 19), .int (f 20), .int (f 21), .int (f 22), .ref (mmad k 109), .ref (mmad k 110), .ref (mmad k 111), .ref (mmad k 112), .ref (mmad k 113), .int (f 28)]) := rfl
theorem mc_7 (k : mmK) (f : Nat → Int32) : mm_cell k 7 f = .inl (k.2.2.2.2.1, 4, .inr (.inr (.inr (.inr (fun j => some (mmad k (mm_tab 7 j))))))) := rfl
theorem mc_29 (k : mmK) (f : Nat → Int32) : mm_cell k 29 f = .inl (k.2.2.2.1, 5, .inr (.inr (.inr (.inr (fun j => some (mmad k (mm_tab 29 j))))))) := rfl
theorem mc_38 (k : mmK) (f : Nat → Int32) : mm_cell k 38 f = .inl (k.2.2.2.2.1, 41, .inr (.inr (.inr (.inr (fun j => some (mmad k (mm_tab 38 j))))))) := rfl
theorem mc_86 (k : mmK) (f : Nat → Int32) : mm_cell k 86 f = .inl (k.2.2.2.1, 3, .inr (.inr (.inr (.inr (fun j => some (mmad k (mm_tab 86 j))))))) := rfl
theorem mc_109 (k : mmK) (f : Nat → Int32) : mm_cell k 109 f = .inl (k.2.2.1, 4, .inl f) := rfl
theorem ml_2 : mm_len 2 = 6 := rfl
theorem ml_3 : mm_len 3 = 3 := rfl
theorem ml_4 : mm_len 4 = 216 := rfl
theorem ml_5 : mm_len 5 = 56 := rfl
theorem ml_8 : mm_len 8 = 40 := rfl
theorem ml_9 : mm_len 9 = 40 := rfl
theorem ml_10 : mm_len 10 = 40 := rfl
theorem ml_11 : mm_len 11 = 40 := rfl
theorem ml_12 : mm_len 12 = 4 := rfl
theorem ml_13 : mm_len 13 = 4 := rfl
theorem ml_15 : mm_len 15 = 40 := rfl
theorem ml_16 : mm_len 16 = 40 := rfl
theorem ml_18 : mm_len 18 = 3 := rfl
theorem ml_19 : mm_len 19 = 56 := rfl
theorem ml_20 : mm_len 20 = 56 := rfl
theorem ml_21 : mm_len 21 = 3 := rfl
theorem ml_22 : mm_len 22 = 1 := rfl
theorem ml_24 : mm_len 24 = 3 := rfl
theorem ml_26 : mm_len 26 = 3 := rfl
theorem ml_28 : mm_len 28 = 3 := rfl
theorem ml_31 : mm_len 31 = 3 := rfl
theorem ml_33 : mm_len 33 = 3 := rfl
theorem ml_35 : mm_len 35 = 3 := rfl
theorem ml_37 : mm_len 37 = 3 := rfl
theorem ml_39 : mm_len 39 = 56 := rfl
theorem ml_40 : mm_len 40 = 56 := rfl
theorem ml_41 : mm_len 41 = 56 := rfl
theorem ml_42 : mm_len 42 = 56 := rfl
theorem ml_43 : mm_len 43 = 56 := rfl
theorem ml_44 : mm_len 44 = 56 := rfl
theorem ml_45 : mm_len 45 = 56 := rfl
theorem ml_46 : mm_len 46 = 56 := rfl
theorem ml_47 : mm_len 47 = 56 := rfl
theorem ml_48 : mm_len 48 = 56 := rfl
theorem ml_49 : mm_len 49 = 56 := rfl
theorem ml_50 : mm_len 50 = 56 := rfl
theorem ml_51 : mm_len 51 = 56 := rfl
theorem ml_52 : mm_len 52 = 56 := rfl
theorem ml_53 : mm_len 53 = 56 := rfl
theorem ml_54 : mm_len 54 = 56 := rfl
theorem ml_55 : mm_len 55 = 56 := rfl
theorem ml_56 : mm_len 56 = 56 := rfl
theorem ml_57 : mm_len 57 = 56 := rfl
theorem ml_58 : mm_len 58 = 56 := rfl
theorem ml_59 : mm_len 59 = 56 := rfl
theorem ml_60 : mm_len 60 = 56 := rfl
theorem ml_61 : mm_len 61 = 56 := rfl
theorem ml_62 : mm_len 62 = 56 := rfl
theorem ml_63 : mm_len 63 = 56 := rfl
theorem ml_64 : mm_len 64 = 56 := rfl
theorem ml_65 : mm_len 65 = 56 := rfl
theorem ml_66 : mm_len 66 = 56 := rfl
theorem ml_67 : mm_len 67 = 56 := rfl
theorem ml_68 : mm_len 68 = 56 := rfl
theorem ml_69 : mm_len 69 = 56 := rfl
theorem ml_70 : mm_len 70 = 56 := rfl
theorem ml_71 : mm_len 71 = 56 := rfl
theorem ml_72 : mm_len 72 = 56 := rfl
theorem ml_73 : mm_len 73 = 56 := rfl
theorem ml_74 : mm_len 74 = 56 := rfl
theorem ml_75 : mm_len 75 = 56 := rfl
theorem ml_76 : mm_len 76 = 56 := rfl
theorem ml_77 : mm_len 77 = 56 := rfl
theorem ml_78 : mm_len 78 = 56 := rfl
theorem ml_79 : mm_len 79 = 56 := rfl
theorem ml_82 : mm_len 82 = 3 := rfl
theorem ml_84 : mm_len 84 = 3 := rfl
theorem ml_85 : mm_len 85 = 3 := rfl
theorem ml_88 : mm_len 88 = 3 := rfl
theorem ml_90 : mm_len 90 = 3 := rfl
theorem ml_92 : mm_len 92 = 3 := rfl
theorem ml_93 : mm_len 93 = 56 := rfl
theorem ml_94 : mm_len 94 = 56 := rfl
theorem ml_95 : mm_len 95 = 3 := rfl
theorem ml_96 : mm_len 96 = 3 := rfl
theorem ml_98 : mm_len 98 = 6 := rfl
theorem ml_99 : mm_len 99 = 3 := rfl
theorem ml_100 : mm_len 100 = 40 := rfl
theorem ml_101 : mm_len 101 = 8856 := rfl
theorem ml_102 : mm_len 102 = 40 := rfl
theorem ml_103 : mm_len 103 = 3 := rfl
theorem ml_104 : mm_len 104 = 216 := rfl
theorem ml_105 : mm_len 105 = 216 := rfl
theorem ml_106 : mm_len 106 = 3 := rfl
theorem ml_107 : mm_len 107 = 3 := rfl
theorem ml_108 : mm_len 108 = 3 := rfl
theorem ml_110 : mm_len 110 = 4 := rfl
theorem ml_111 : mm_len 111 = 4 := rfl
theorem ml_112 : mm_len 112 = 160 := rfl
theorem ml_113 : mm_len 113 = 40 := rfl
theorem mm_len_lt {i : Nat} (h : mm_len i ≠ 0) : i < 114 := by
  rcases Nat.lt_or_ge i 114 with q | q
  · exact q
  · exact absurd (by unfold mm_len; rw [List.getD_eq_getElem?_getD, List.getElem?_eq_none (by simpa using q)]; rfl) h
theorem mm_arr {k : mmK} {i : Nat} {f : Nat → Int32} (h : mm_len i ≠ 0) : mm_cell k i f = .inl (k.2.1, mm_len i, .inl f) := if_neg h
theorem mm_at (k : mmK) (F : mmS) {i : Nat} (h : i < 114) : (mm_W k F)[i]? = some (mmad k i, mm_cell k i (F i)) := by
  unfold mm_W
  rw [List.getElem?_map, List.getElem?_range h]
  rfl
theorem mm_set (k : mmK) (F : mmS) {i : Nat} (h : i < 114) (f : Nat → Int32) : (mm_W k F).set i (mmad k i, mm_cell k i f) = mm_W k (va_up F i f) := by
  apply List.ext_getElem?
  intro j
  rw [List.getElem?_set]
  have hl : (mm_W k F).length = 114 := by simp [mm_W]
  by_cases hij : i = j
  · subst hij
    rw [if_pos rfl, if_pos (by rw [hl]; exact h), mm_at k _ h, va_up_self]
  · rw [if_neg hij]
    by_cases hj : j < 114
    · rw [mm_at k _ hj, mm_at k _ hj, va_up_ne _ _ (fun q => hij q.symm)]
    · rw [List.getElem?_eq_none (by rw [hl]; omega), List.getElem?_eq_none (by simp [mm_W]; omega)]
def mm_inj (k : mmK) : Prop := ∀ i j : Nat, i < 114 → j < 114 → mmad k i = mmad k j → i = j
def mm_A (k : mmK) : Nat → Prop := fun q => ∃ i : Nat, i < 114 ∧ q = mmad k i
theorem mm_lt {k : mmK} {F : mmS} {i : Nat} {q : Nat × va_E} (h : (mm_W k F)[i]? = some q) : i < 114 ∧ q = (mmad k i, mm_cell k i (F i)) := by
  have hl : i < (mm_W k F).length := (List.getElem?_eq_some_iff.mp h).1
  have h1 : i < 114 := by simpa [mm_W] using hl
  exact ⟨h1, (Option.some.inj ((mm_at k F h1).symm.trans h)).symm⟩
theorem mm_D {k : mmK} (F : mmS) (h : mm_inj k) : va_D (mm_A k) (mm_W k F) := by
  refine ⟨fun i j p q hi hj e => ?_, fun i q hi => ?_⟩
  · obtain ⟨h1, rfl⟩ := mm_lt hi
    obtain ⟨h2, rfl⟩ := mm_lt hj
    exact h i j h1 h2 e
  · obtain ⟨h1, rfl⟩ := mm_lt hi
    exact ⟨i, h1, rfl⟩
def mm_N (U : State) : Prop := va_Nw (.methodLinkNest RX6 40 yX11_isWithin RX11) U ∧ va_Nw (.declares ⟨RX7, "standAtStart", "()V"⟩) U ∧ va_Nw (.declares ⟨RX7, "meet", "(II)V"⟩) U ∧ va_Nw (.declares ⟨RX7, "send", "(II)V"⟩) U ∧ va_Nw (.declares ⟨RX7, "begin", "()V"⟩) U
theorem mm_N.warm {s U : State} (hW : s.WarmedH U.vm) (h : mm_N s) : mm_N U := ⟨va_Nw.warmM hW h.1, va_Nw.warmD hW h.2.1, va_Nw.warmD hW h.2.2.1, va_Nw.warmD hW h.2.2.2.1, va_Nw.warmD hW h.2.2.2.2⟩
theorem mm_N.same {s U : State} (e : s.vm = U.vm) (h : mm_N s) : mm_N U := ⟨va_Nw.same rfl e h.1, va_Nw.same rfl e h.2.1, va_Nw.same rfl e h.2.2.1, va_Nw.same rfl e h.2.2.2.1, va_Nw.same rfl e h.2.2.2.2⟩
def mm_rm (d : Nat) : Room := { frames := d, cells := 0, slots := 0, locals := 40 * d }
def mm_B (k : mmK) (F : mmS) (U : State) : Prop := va_P k.1 vwCl (mm_W k F) U.heap ∧ va_K k.1 vwCl (mm_ty k) U ∧ mm_N U ∧ mm_inj k
def mm_Q (k : mmK) (v0 : Option Value) (F1 : mmS) : Array Value → State → Outcome → State → Prop := fun _ st oc t => oc = .returned v0 ∧ va_P k.1 vwCl (mm_W k F1) t.heap ∧ va_F (mm_A k) st t
/-- the contract: from the pool F the method gives v0 and leaves the pool F1 -/
def mm_T (l : Launch) (k : mmK) (y : MethodName) (cc : ByteArray) (nL : Nat) (ret : Option FieldType) (d : Nat) (av : List Value) (F : mmS) (v0 : Option Value) (F1 : mmS) : Prop :=
  Met l y (.code y cc nL ret :: mm_G) (mm_rm d) (va_Pc av (mm_B k F)) (mm_Q k v0 F1) 0 0 (mm_A k)
abbrev mmZ : Type := Program × Launch × Env × Room × State × MethodId × Array Value × List Frame × Method × Code
def mm_C : mmZ → mmK → String → ByteArray → Nat → Option FieldType → Nat → Prop := fun (p, l, e, R, s, m, args, below, meth, c) k own cc nL ret d =>
  p.tables.exec = Jvm.exec ∧ c.code = cc ∧ meth.sig.returnType = ret ∧ c.maxLocals = nL ∧ s.vm.findClass own = some m.cls ∧ (∀ w ∈ mm_G, w.before args s = true) ∧ va_K k.1 vwCl (mm_ty k) s ∧ mm_N s ∧ mm_inj k ∧ meth.locks = false ∧ R = mm_rm d
def mm_AW : mmZ → mmK → Nat → Option Value → mmS → mmS → Nat → List (Nat × Value) → List Value → Prop := fun (p, l, e, R, s, m, args, below, meth, c) k nL v0 F1 F pc lv st =>
  ∀ (H : Heap) (lc : List Loc) (ls : Array Slot), va_P k.1 vwCl (mm_W k F) H → va_S (mm_A k) s.heap H lc → lv_has ls nL lv → W p l e R s m args below meth c H lc 0 0 (MQ below (mm_Q k v0 F1) args s 0 0 (mm_A k)) (F0 m pc ls st)
def mm_l : mmZ → Launch := fun z => z.2.1
theorem mm_start {l : Launch} {k : mmK} {y : MethodName} {cc : ByteArray} {nL : Nat} {ret : Option FieldType} {d : Nat} {av : List Value} {F : mmS} {v0 : Option Value} {F1 : mmS} (lv : List (Nat × Value)) (hy : plainName y.cls = true) (hn : (lg_sl av).length ≤ nL) (hlv : lv_args 0 av = lv)
    (h : ∀ z : mmZ, mm_l z = l → mm_C z k y.cls cc nL ret d → mm_AW z k nL v0 F1 F 0 lv []) : mm_T l k y cc nL ret d av F v0 F1 := by
  refine Met.ofW (cc := cc) (maxL := nL) (ret := ret) hy rfl ?_
  intro p e s m args below meth c s₁ B hml hv
  obtain ⟨rfl, hP, hK, hN, hI⟩ := hv
  have hts := atoms_spec (ws := .code y cc nL ret :: mm_G) B.pre
  have h1 := h (p, l, e, mm_rm d, s, m, av.toArray, below, meth, c) rfl ⟨B.exec, B.bytes, B.returns, hml, findClass_of_methodNamed B.named, fun w hw => hts w (List.mem_cons_of_mem _ hw), hK, hN, hI, B.notSynchronized, rfl⟩
  have hl := lv_entry av (n := nL) hn
  rw [hlv] at hl
  rw [lg_entry_eq]
  exact h1 s.heap [] _ hP va_S.rf hl
end
section
def ald (F : mmS) (q : Nat) (i : Int32) : Option Int32 := if i < 0 ∨ mm_len q ≤ i.toNatClampNeg then none else some (F q i.toNatClampNeg)
def stF (F : mmS) (q j : Nat) (v : Int32) : mmS := va_up F q (upd (F q) j v)
def ast (F : mmS) (q : Nat) (i v : Int32) : Option mmS := if i < 0 ∨ mm_len q ≤ i.toNatClampNeg then none else some (stF F q i.toNatClampNeg v)
def zld (F : mmS) (i : Int32) : Option Int32 := if i < 0 ∨ 4 ≤ i.toNatClampNeg then none else some (F 109 i.toNatClampNeg)
def zst (F : mmS) (i v : Int32) : Option mmS := if i < 0 ∨ 4 ≤ i.toNatClampNeg then none else if v = 0 ∨ v = 1 then some (stF F 109 i.toNatClampNeg v) else none
def rld (q : Nat) (i : Int32) : Option Nat := if i < 0 ∨ mm_lenR q ≤ i.toNatClampNeg then none else some (mm_tab q i.toNatClampNeg)
def mdiv (x y : Int32) : Option Int32 := if y = 0 then none else some (x / y)
def mrem (x y : Int32) : Option Int32 := if y = 0 then none else some (x - x / y * y)
def zg (x : Int32) : Option Int32 := if x = 0 ∨ x = 1 then some x else none
def mlet {α β : Type} (a : α) (f : α → β) : β := f a
def mabs (x : Int32) : Int32 := if 0 ≤ x then x else 0 - x
def mmin (x y : Int32) : Int32 := if y < x then y else x
def mcpy (F : mmS) (a0 : Nat) (sp : Int32) (a1 : Nat) (dp n : Int32) : Option mmS := if (sp < 0 ∨ dp < 0 ∨ n < 0) ∨ mm_len a0 = 0 ∨ mm_len a1 = 0 ∨ mm_len a0 < sp.toNatClampNeg + n.toNatClampNeg ∨ mm_len a1 < dp.toNatClampNeg + n.toNatClampNeg then none else some (va_up F a1 (va_cpy (F a0) (F a1) sp.toNatClampNeg dp.toNatClampNeg n.toNatClampNeg))
theorem mb {α β γ : Type} {op : Option α} {f : α → Option β} {K : β → Option γ} {r : γ} (h : (op.bind f).bind K = some r) : ∃ v, op = some v ∧ (f v).bind K = some r := by
  cases op with
  | none => cases h
  | some v => exact ⟨v, rfl, h⟩
theorem me {α β γ : Type} {a : α} {f : α → Option β} {K : β → Option γ} {r : γ} (h : (mlet a f).bind K = some r) : ∃ v, a = v ∧ (f v).bind K = some r := ⟨a, rfl, h⟩
theorem mas {α β γ : Type} {op : Option α} {f : α → Option β} {K : β → Option γ} {r : γ} (h : (op.bind f).bind K = some r) : op.bind (fun x => (f x).bind K) = some r := by
  cases op <;> exact h
theorem mk0 {α : Type} {E : Option α} {r : α} (h : E = some r) : E.bind some = some r := by rw [h]; rfl
section MMR
variable {z : mmZ} {k : mmK} {own : String} {cc : ByteArray} {nL d pc : Nat} {ret : Option FieldType} {v0 : Option Value} {F1 F : mmS} {lv : List (Nat × Value)} {rest : List Value}
theorem mm_lv (ks : List Nat) {lv2 : List (Nat × Value)} {st : List Value} (h : lv_pick lv ks = lv2) (kk : mm_AW z k nL v0 F1 F pc lv2 st) : mm_AW z k nL v0 F1 F pc lv st := by
  obtain ⟨p, l, e, R, s, m, args, below, meth, c⟩ := z
  exact fun H lc ls hP hS hl => kk H lc ls hP hS (lv_sub hl ks h)
theorem mm_top {x y : Int32} (h : x = y) (kk : mm_AW z k nL v0 F1 F pc lv (.int y :: rest)) : mm_AW z k nL v0 F1 F pc lv (.int x :: rest) := by rw [h]; exact kk
theorem mm_topl {x y : Int64} (h : x = y) (kk : mm_AW z k nL v0 F1 F pc lv (.long y :: rest)) : mm_AW z k nL v0 F1 F pc lv (.long x :: rest) := by rw [h]; exact kk
theorem mm_iconst {n : Int} {v : Int32} (C : mm_C z k own cc nL ret d) (hdg : decode cc pc = .ok (.iconst n, 1)) (hv : Int32.ofInt n = v) (q : Nat) (hq : pc + 1 = q) (kk : mm_AW z k nL v0 F1 F q lv (.int v :: rest)) : mm_AW z k nL v0 F1 F pc lv (rest) := by
  obtain ⟨p, l, e, R, s, m, args, below, meth, c⟩ := z
  subst hq
  exact fun H lc ls hP hS hl => lv_iconst C.1 C.2.1 hdg hv (kk H lc ls hP hS hl)
theorem mm_bipush {n : Int} {v : Int32} (C : mm_C z k own cc nL ret d) (hdg : decode cc pc = .ok (.bipush n, 2)) (hv : (Int8.ofInt n).toInt32 = v) (q : Nat) (hq : pc + 2 = q) (kk : mm_AW z k nL v0 F1 F q lv (.int v :: rest)) : mm_AW z k nL v0 F1 F pc lv (rest) := by
  obtain ⟨p, l, e, R, s, m, args, below, meth, c⟩ := z
  subst hq
  exact fun H lc ls hP hS hl => lv_bipush C.1 C.2.1 hdg hv (kk H lc ls hP hS hl)
theorem mm_sipush {n : Int} {v : Int32} (C : mm_C z k own cc nL ret d) (hdg : decode cc pc = .ok (.sipush n, 3)) (hv : (Int16.ofInt n).toInt32 = v) (q : Nat) (hq : pc + 3 = q) (kk : mm_AW z k nL v0 F1 F q lv (.int v :: rest)) : mm_AW z k nL v0 F1 F pc lv (rest) := by
  obtain ⟨p, l, e, R, s, m, args, below, meth, c⟩ := z
  subst hq
  exact fun H lc ls hP hS hl => lv_sipush C.1 C.2.1 hdg hv (kk H lc ls hP hS hl)
theorem mm_ldc {index : Nat} {v : Int32} (C : mm_C z k own cc nL ret d) (hdg : decode cc pc = .ok (.ldc index, 2)) (hw : Cond.constant own index v ∈ mm_G) (q : Nat) (hq : pc + 2 = q) (kk : mm_AW z k nL v0 F1 F q lv (.int v :: rest)) : mm_AW z k nL v0 F1 F pc lv (rest) := by
  obtain ⟨p, l, e, R, s, m, args, below, meth, c⟩ := z
  subst hq
  exact fun H lc ls hP hS hl => lv_ldc C.1 C.2.1 C.2.2.2.2.1 (C.2.2.2.2.2.1 _ hw) hdg (kk H lc ls hP hS hl)
theorem mm_ldc2 {index : Nat} {v : Int64} (C : mm_C z k own cc nL ret d) (hdg : decode cc pc = .ok (.ldc2_w index, 3)) (hw : Cond.constantLong own index v ∈ mm_G) (q : Nat) (hq : pc + 3 = q) (kk : mm_AW z k nL v0 F1 F q lv (.long v :: rest)) : mm_AW z k nL v0 F1 F pc lv (rest) := by
  obtain ⟨p, l, e, R, s, m, args, below, meth, c⟩ := z
  subst hq
  exact fun H lc ls hP hS hl => lv_ldc2 C.1 C.2.1 C.2.2.2.2.1 (C.2.2.2.2.2.1 _ hw) hdg (kk H lc ls hP hS hl)
theorem mm_iload_n {f4 : Fin 4} {i : Nat} {x : Int32} (C : mm_C z k own cc nL ret d) (hdg : decode cc pc = .ok (.iload_n f4, 1)) (hi : (f4 : Nat) = i) (j : Nat) (hj : lv[j]? = some (i, .int x)) (q : Nat) (hq : pc + 1 = q) (kk : mm_AW z k nL v0 F1 F q lv (.int x :: rest)) : mm_AW z k nL v0 F1 F pc lv (rest) := by
  obtain ⟨p, l, e, R, s, m, args, below, meth, c⟩ := z
  subst hq
  exact fun H lc ls hP hS hl => lv_iload_n C.1 C.2.1 hdg hi (lv_at hl j hj) (kk H lc ls hP hS hl)
theorem mm_iload {i : Nat} {x : Int32} (C : mm_C z k own cc nL ret d) (hdg : decode cc pc = .ok (.iload i, 2)) (j : Nat) (hj : lv[j]? = some (i, .int x)) (q : Nat) (hq : pc + 2 = q) (kk : mm_AW z k nL v0 F1 F q lv (.int x :: rest)) : mm_AW z k nL v0 F1 F pc lv (rest) := by
  obtain ⟨p, l, e, R, s, m, args, below, meth, c⟩ := z
  subst hq
  exact fun H lc ls hP hS hl => lv_iload C.1 C.2.1 hdg (lv_at hl j hj) (kk H lc ls hP hS hl)
theorem mm_aload_n {f4 : Fin 4} {i : Nat} {x : Nat} (C : mm_C z k own cc nL ret d) (hdg : decode cc pc = .ok (.aload_n f4, 1)) (hi : (f4 : Nat) = i) (j : Nat) (hj : lv[j]? = some (i, .ref x)) (q : Nat) (hq : pc + 1 = q) (kk : mm_AW z k nL v0 F1 F q lv (.ref x :: rest)) : mm_AW z k nL v0 F1 F pc lv (rest) := by
  obtain ⟨p, l, e, R, s, m, args, below, meth, c⟩ := z
  subst hq
  exact fun H lc ls hP hS hl => lv_aload_n C.1 C.2.1 hdg hi (lv_at hl j hj) (kk H lc ls hP hS hl)
theorem mm_aload {i : Nat} {x : Nat} (C : mm_C z k own cc nL ret d) (hdg : decode cc pc = .ok (.aload i, 2)) (j : Nat) (hj : lv[j]? = some (i, .ref x)) (q : Nat) (hq : pc + 2 = q) (kk : mm_AW z k nL v0 F1 F q lv (.ref x :: rest)) : mm_AW z k nL v0 F1 F pc lv (rest) := by
  obtain ⟨p, l, e, R, s, m, args, below, meth, c⟩ := z
  subst hq
  exact fun H lc ls hP hS hl => lv_aload C.1 C.2.1 hdg (lv_at hl j hj) (kk H lc ls hP hS hl)
theorem mm_lload_n {f4 : Fin 4} {i : Nat} {x : Int64} (C : mm_C z k own cc nL ret d) (hdg : decode cc pc = .ok (.lload_n f4, 1)) (hi : (f4 : Nat) = i) (j : Nat) (hj : lv[j]? = some (i, .long x)) (q : Nat) (hq : pc + 1 = q) (kk : mm_AW z k nL v0 F1 F q lv (.long x :: rest)) : mm_AW z k nL v0 F1 F pc lv (rest) := by
  obtain ⟨p, l, e, R, s, m, args, below, meth, c⟩ := z
  subst hq
  exact fun H lc ls hP hS hl => lv_lload_n C.1 C.2.1 hdg hi (lv_at hl j hj) (kk H lc ls hP hS hl)
theorem mm_lload {i : Nat} {x : Int64} (C : mm_C z k own cc nL ret d) (hdg : decode cc pc = .ok (.lload i, 2)) (j : Nat) (hj : lv[j]? = some (i, .long x)) (q : Nat) (hq : pc + 2 = q) (kk : mm_AW z k nL v0 F1 F q lv (.long x :: rest)) : mm_AW z k nL v0 F1 F pc lv (rest) := by
  obtain ⟨p, l, e, R, s, m, args, below, meth, c⟩ := z
  subst hq
  exact fun H lc ls hP hS hl => lv_lload C.1 C.2.1 hdg (lv_at hl j hj) (kk H lc ls hP hS hl)
theorem mm_istore_n {f4 : Fin 4} {i : Nat} {x : Int32} {lv2 : List (Nat × Value)} (C : mm_C z k own cc nL ret d) (hdg : decode cc pc = .ok (.istore_n f4, 1)) (hi : (f4 : Nat) = i) (hn : i < nL) (hf : (i, Value.int x) :: lv.filter (fun q => !(q.1 == i) && !(q.1 + 1 == i && q.2.category == 2)) = lv2) (q : Nat) (hq : pc + 1 = q) (kk : mm_AW z k nL v0 F1 F q lv2 rest) : mm_AW z k nL v0 F1 F pc lv (.int x :: rest) := by
  obtain ⟨p, l, e, R, s, m, args, below, meth, c⟩ := z
  subst hq
  exact fun H lc ls hP hS hl => lv_istore_n (lv' := lv2) C.1 C.2.1 hdg hi hl hn hf (fun ls hl => kk H lc ls hP hS hl)
theorem mm_istore {i : Nat} {x : Int32} {lv2 : List (Nat × Value)} (C : mm_C z k own cc nL ret d) (hdg : decode cc pc = .ok (.istore i, 2)) (hn : i < nL) (hf : (i, Value.int x) :: lv.filter (fun q => !(q.1 == i) && !(q.1 + 1 == i && q.2.category == 2)) = lv2) (q : Nat) (hq : pc + 2 = q) (kk : mm_AW z k nL v0 F1 F q lv2 rest) : mm_AW z k nL v0 F1 F pc lv (.int x :: rest) := by
  obtain ⟨p, l, e, R, s, m, args, below, meth, c⟩ := z
  subst hq
  exact fun H lc ls hP hS hl => lv_istore (lv' := lv2) C.1 C.2.1 hdg hl hn hf (fun ls hl => kk H lc ls hP hS hl)
theorem mm_astore_n {f4 : Fin 4} {i : Nat} {x : Nat} {lv2 : List (Nat × Value)} (C : mm_C z k own cc nL ret d) (hdg : decode cc pc = .ok (.astore_n f4, 1)) (hi : (f4 : Nat) = i) (hn : i < nL) (hf : (i, Value.ref x) :: lv.filter (fun q => !(q.1 == i) && !(q.1 + 1 == i && q.2.category == 2)) = lv2) (q : Nat) (hq : pc + 1 = q) (kk : mm_AW z k nL v0 F1 F q lv2 rest) : mm_AW z k nL v0 F1 F pc lv (.ref x :: rest) := by
  obtain ⟨p, l, e, R, s, m, args, below, meth, c⟩ := z
  subst hq
  exact fun H lc ls hP hS hl => lv_astore_n (lv' := lv2) C.1 C.2.1 hdg hi hl hn hf (fun ls hl => kk H lc ls hP hS hl)
theorem mm_astore {i : Nat} {x : Nat} {lv2 : List (Nat × Value)} (C : mm_C z k own cc nL ret d) (hdg : decode cc pc = .ok (.astore i, 2)) (hn : i < nL) (hf : (i, Value.ref x) :: lv.filter (fun q => !(q.1 == i) && !(q.1 + 1 == i && q.2.category == 2)) = lv2) (q : Nat) (hq : pc + 2 = q) (kk : mm_AW z k nL v0 F1 F q lv2 rest) : mm_AW z k nL v0 F1 F pc lv (.ref x :: rest) := by
  obtain ⟨p, l, e, R, s, m, args, below, meth, c⟩ := z
  subst hq
  exact fun H lc ls hP hS hl => lv_astore (lv' := lv2) C.1 C.2.1 hdg hl hn hf (fun ls hl => kk H lc ls hP hS hl)
theorem mm_lstore_n {f4 : Fin 4} {i : Nat} {x : Int64} {lv2 : List (Nat × Value)} (C : mm_C z k own cc nL ret d) (hdg : decode cc pc = .ok (.lstore_n f4, 1)) (hi : (f4 : Nat) = i) (hn : i + 1 < nL) (hf : (i, Value.long x) :: lv.filter (fun q => !(q.1 == i) && (!(q.1 == i + 1) && !(q.1 + 1 == i && q.2.category == 2))) = lv2) (q : Nat) (hq : pc + 1 = q) (kk : mm_AW z k nL v0 F1 F q lv2 rest) : mm_AW z k nL v0 F1 F pc lv (.long x :: rest) := by
  obtain ⟨p, l, e, R, s, m, args, below, meth, c⟩ := z
  subst hq
  exact fun H lc ls hP hS hl => lv_lstore_n (lv' := lv2) C.1 C.2.1 hdg hi hl hn hf (fun ls hl => kk H lc ls hP hS hl)
theorem mm_lstore {i : Nat} {x : Int64} {lv2 : List (Nat × Value)} (C : mm_C z k own cc nL ret d) (hdg : decode cc pc = .ok (.lstore i, 2)) (hn : i + 1 < nL) (hf : (i, Value.long x) :: lv.filter (fun q => !(q.1 == i) && (!(q.1 == i + 1) && !(q.1 + 1 == i && q.2.category == 2))) = lv2) (q : Nat) (hq : pc + 2 = q) (kk : mm_AW z k nL v0 F1 F q lv2 rest) : mm_AW z k nL v0 F1 F pc lv (.long x :: rest) := by
  obtain ⟨p, l, e, R, s, m, args, below, meth, c⟩ := z
  subst hq
  exact fun H lc ls hP hS hl => lv_lstore (lv' := lv2) C.1 C.2.1 hdg hl hn hf (fun ls hl => kk H lc ls hP hS hl)
theorem mm_iinc {i : Nat} {n : Int} {x v : Int32} {lv2 : List (Nat × Value)} (C : mm_C z k own cc nL ret d) (hdg : decode cc pc = .ok (.iinc i n, 3)) (j : Nat) (hj : lv[j]? = some (i, .int x)) (hv : x + Int32.ofInt n = v) (hn : i < nL) (hf : (i, Value.int v) :: lv.filter (fun q => !(q.1 == i) && !(q.1 + 1 == i && q.2.category == 2)) = lv2) (q : Nat) (hq : pc + 3 = q) (kk : mm_AW z k nL v0 F1 F q lv2 rest) : mm_AW z k nL v0 F1 F pc lv (rest) := by
  obtain ⟨p, l, e, R, s, m, args, below, meth, c⟩ := z
  subst hq
  exact fun H lc ls hP hS hl => lv_iinc (lv' := lv2) C.1 C.2.1 hdg hl hj hv hn hf (fun ls hl => kk H lc ls hP hS hl)
theorem mm_iadd {x y : Int32} (C : mm_C z k own cc nL ret d) (hdg : decode cc pc = .ok (.iadd, 1))  (q : Nat) (hq : pc + 1 = q) (kk : mm_AW z k nL v0 F1 F q lv (.int (x + y) :: rest)) : mm_AW z k nL v0 F1 F pc lv (.int y :: .int x :: rest) := by
  obtain ⟨p, l, e, R, s, m, args, below, meth, c⟩ := z
  subst hq
  exact fun H lc ls hP hS hl => lv_iadd C.1 C.2.1 hdg (kk H lc ls hP hS hl)
theorem mm_isub {x y : Int32} (C : mm_C z k own cc nL ret d) (hdg : decode cc pc = .ok (.isub, 1))  (q : Nat) (hq : pc + 1 = q) (kk : mm_AW z k nL v0 F1 F q lv (.int (x - y) :: rest)) : mm_AW z k nL v0 F1 F pc lv (.int y :: .int x :: rest) := by
  obtain ⟨p, l, e, R, s, m, args, below, meth, c⟩ := z
  subst hq
  exact fun H lc ls hP hS hl => lv_isub C.1 C.2.1 hdg (kk H lc ls hP hS hl)
theorem mm_imul {x y : Int32} (C : mm_C z k own cc nL ret d) (hdg : decode cc pc = .ok (.imul, 1))  (q : Nat) (hq : pc + 1 = q) (kk : mm_AW z k nL v0 F1 F q lv (.int (x * y) :: rest)) : mm_AW z k nL v0 F1 F pc lv (.int y :: .int x :: rest) := by
  obtain ⟨p, l, e, R, s, m, args, below, meth, c⟩ := z
  subst hq
  exact fun H lc ls hP hS hl => lv_imul C.1 C.2.1 hdg (kk H lc ls hP hS hl)
theorem mm_iand {x y : Int32} (C : mm_C z k own cc nL ret d) (hdg : decode cc pc = .ok (.iand, 1))  (q : Nat) (hq : pc + 1 = q) (kk : mm_AW z k nL v0 F1 F q lv (.int (x &&& y) :: rest)) : mm_AW z k nL v0 F1 F pc lv (.int y :: .int x :: rest) := by
  obtain ⟨p, l, e, R, s, m, args, below, meth, c⟩ := z
  subst hq
  exact fun H lc ls hP hS hl => lv_iand C.1 C.2.1 hdg (kk H lc ls hP hS hl)
theorem mm_ladd {x y : Int64} (C : mm_C z k own cc nL ret d) (hdg : decode cc pc = .ok (.ladd, 1))  (q : Nat) (hq : pc + 1 = q) (kk : mm_AW z k nL v0 F1 F q lv (.long (x + y) :: rest)) : mm_AW z k nL v0 F1 F pc lv (.long y :: .long x :: rest) := by
  obtain ⟨p, l, e, R, s, m, args, below, meth, c⟩ := z
  subst hq
  exact fun H lc ls hP hS hl => lv_ladd C.1 C.2.1 hdg (kk H lc ls hP hS hl)
theorem mm_lmul {x y : Int64} (C : mm_C z k own cc nL ret d) (hdg : decode cc pc = .ok (.lmul, 1))  (q : Nat) (hq : pc + 1 = q) (kk : mm_AW z k nL v0 F1 F q lv (.long (x * y) :: rest)) : mm_AW z k nL v0 F1 F pc lv (.long y :: .long x :: rest) := by
  obtain ⟨p, l, e, R, s, m, args, below, meth, c⟩ := z
  subst hq
  exact fun H lc ls hP hS hl => lv_lmul C.1 C.2.1 hdg (kk H lc ls hP hS hl)
theorem mm_idiv {x y v : Int32} (C : mm_C z k own cc nL ret d) (hdg : decode cc pc = .ok (.idiv, 1)) (he : mdiv x y = some v) (q : Nat) (hq : pc + 1 = q) (kk : mm_AW z k nL v0 F1 F q lv (.int v :: rest)) : mm_AW z k nL v0 F1 F pc lv (.int y :: .int x :: rest) := by
  obtain ⟨p, l, e, R, s, m, args, below, meth, c⟩ := z
  subst hq
  unfold mdiv at he
  by_cases hy : y = 0
  · rw [if_pos hy] at he; cases he
  · rw [if_neg hy] at he
    cases he
    exact fun H lc ls hP hS hl => lv_idiv C.1 C.2.1 hdg hy (kk H lc ls hP hS hl)
theorem mm_irem {x y v : Int32} (C : mm_C z k own cc nL ret d) (hdg : decode cc pc = .ok (.irem, 1)) (he : mrem x y = some v) (q : Nat) (hq : pc + 1 = q) (kk : mm_AW z k nL v0 F1 F q lv (.int v :: rest)) : mm_AW z k nL v0 F1 F pc lv (.int y :: .int x :: rest) := by
  obtain ⟨p, l, e, R, s, m, args, below, meth, c⟩ := z
  subst hq
  unfold mrem at he
  by_cases hy : y = 0
  · rw [if_pos hy] at he; cases he
  · rw [if_neg hy] at he
    cases he
    exact fun H lc ls hP hS hl => lv_irem C.1 C.2.1 hdg hy (kk H lc ls hP hS hl)
theorem mm_i2l {x : Int32} (C : mm_C z k own cc nL ret d) (hdg : decode cc pc = .ok (.i2l, 1))  (q : Nat) (hq : pc + 1 = q) (kk : mm_AW z k nL v0 F1 F q lv (.long x.toInt64 :: rest)) : mm_AW z k nL v0 F1 F pc lv (.int x :: rest) := by
  obtain ⟨p, l, e, R, s, m, args, below, meth, c⟩ := z
  subst hq
  exact fun H lc ls hP hS hl => lv_i2l C.1 C.2.1 hdg rfl (kk H lc ls hP hS hl)
theorem mm_i2b {x : Int32} (C : mm_C z k own cc nL ret d) (hdg : decode cc pc = .ok (.i2b, 1))  (q : Nat) (hq : pc + 1 = q) (kk : mm_AW z k nL v0 F1 F q lv (.int x.toInt8.toInt32 :: rest)) : mm_AW z k nL v0 F1 F pc lv (.int x :: rest) := by
  obtain ⟨p, l, e, R, s, m, args, below, meth, c⟩ := z
  subst hq
  exact fun H lc ls hP hS hl => lv_i2b C.1 C.2.1 hdg rfl (kk H lc ls hP hS hl)
theorem mm_i2s {x : Int32} (C : mm_C z k own cc nL ret d) (hdg : decode cc pc = .ok (.i2s, 1))  (q : Nat) (hq : pc + 1 = q) (kk : mm_AW z k nL v0 F1 F q lv (.int x.toInt16.toInt32 :: rest)) : mm_AW z k nL v0 F1 F pc lv (.int x :: rest) := by
  obtain ⟨p, l, e, R, s, m, args, below, meth, c⟩ := z
  subst hq
  exact fun H lc ls hP hS hl => lv_i2s C.1 C.2.1 hdg rfl (kk H lc ls hP hS hl)
theorem mm_dup {a : Value} (C : mm_C z k own cc nL ret d) (hdg : decode cc pc = .ok (.dup, 1)) (ha : a.category = 1) (q : Nat) (hq : pc + 1 = q) (kk : mm_AW z k nL v0 F1 F q lv (a :: a :: rest)) : mm_AW z k nL v0 F1 F pc lv (a :: rest) := by
  obtain ⟨p, l, e, R, s, m, args, below, meth, c⟩ := z
  subst hq
  exact fun H lc ls hP hS hl => lv_dup C.1 C.2.1 hdg ha (kk H lc ls hP hS hl)
theorem mm_pop {a : Value} (C : mm_C z k own cc nL ret d) (hdg : decode cc pc = .ok (.pop, 1)) (ha : a.category = 1) (q : Nat) (hq : pc + 1 = q) (kk : mm_AW z k nL v0 F1 F q lv (rest)) : mm_AW z k nL v0 F1 F pc lv (a :: rest) := by
  obtain ⟨p, l, e, R, s, m, args, below, meth, c⟩ := z
  subst hq
  exact fun H lc ls hP hS hl => lv_pop C.1 C.2.1 hdg ha (kk H lc ls hP hS hl)
theorem mm_dup2 {a b : Value} (C : mm_C z k own cc nL ret d) (hdg : decode cc pc = .ok (.dup2, 1)) (ha : a.category = 1) (hb : b.category = 1) (q : Nat) (hq : pc + 1 = q) (kk : mm_AW z k nL v0 F1 F q lv (a :: b :: a :: b :: rest)) : mm_AW z k nL v0 F1 F pc lv (a :: b :: rest) := by
  obtain ⟨p, l, e, R, s, m, args, below, meth, c⟩ := z
  subst hq
  exact fun H lc ls hP hS hl => lv_dup2_11 C.1 C.2.1 hdg ha hb (kk H lc ls hP hS hl)
theorem mm_if_eq {x : Int32} {off : Int} (C : mm_C z k own cc nL ret d) (hdg : decode cc pc = .ok (.ifCond .eq off, 3)) (t q : Nat) (ht : (pc : Int) + off = (t : Int)) (hq : pc + 3 = q) (kt : x = 0 → mm_AW z k nL v0 F1 F t lv rest) (kf : ¬ x = 0 → mm_AW z k nL v0 F1 F q lv rest) : mm_AW z k nL v0 F1 F pc lv (.int x :: rest) := by
  obtain ⟨p, l, e, R, s, m, args, below, meth, c⟩ := z
  subst hq
  exact fun H lc ls hP hS hl => lv_if_eq C.1 C.2.1 hdg ht (fun h => kt h H lc ls hP hS hl) (fun h => kf h H lc ls hP hS hl)
theorem mm_icmp_eq {x y : Int32} {off : Int} (C : mm_C z k own cc nL ret d) (hdg : decode cc pc = .ok (.if_icmp .eq off, 3)) (t q : Nat) (ht : (pc : Int) + off = (t : Int)) (hq : pc + 3 = q) (kt : x = y → mm_AW z k nL v0 F1 F t lv rest) (kf : ¬ x = y → mm_AW z k nL v0 F1 F q lv rest) : mm_AW z k nL v0 F1 F pc lv (.int y :: .int x :: rest) := by
  obtain ⟨p, l, e, R, s, m, args, below, meth, c⟩ := z
  subst hq
  exact fun H lc ls hP hS hl => lv_icmp_eq C.1 C.2.1 hdg ht (fun h => kt h H lc ls hP hS hl) (fun h => kf h H lc ls hP hS hl)
theorem mm_if_ne {x : Int32} {off : Int} (C : mm_C z k own cc nL ret d) (hdg : decode cc pc = .ok (.ifCond .ne off, 3)) (t q : Nat) (ht : (pc : Int) + off = (t : Int)) (hq : pc + 3 = q) (kt : ¬ x = 0 → mm_AW z k nL v0 F1 F t lv rest) (kf : x = 0 → mm_AW z k nL v0 F1 F q lv rest) : mm_AW z k nL v0 F1 F pc lv (.int x :: rest) := by
  obtain ⟨p, l, e, R, s, m, args, below, meth, c⟩ := z
  subst hq
  exact fun H lc ls hP hS hl => lv_if_ne C.1 C.2.1 hdg ht (fun h => kt h H lc ls hP hS hl) (fun h => kf h H lc ls hP hS hl)
theorem mm_icmp_ne {x y : Int32} {off : Int} (C : mm_C z k own cc nL ret d) (hdg : decode cc pc = .ok (.if_icmp .ne off, 3)) (t q : Nat) (ht : (pc : Int) + off = (t : Int)) (hq : pc + 3 = q) (kt : ¬ x = y → mm_AW z k nL v0 F1 F t lv rest) (kf : x = y → mm_AW z k nL v0 F1 F q lv rest) : mm_AW z k nL v0 F1 F pc lv (.int y :: .int x :: rest) := by
  obtain ⟨p, l, e, R, s, m, args, below, meth, c⟩ := z
  subst hq
  exact fun H lc ls hP hS hl => lv_icmp_ne C.1 C.2.1 hdg ht (fun h => kt h H lc ls hP hS hl) (fun h => kf h H lc ls hP hS hl)
theorem mm_if_lt {x : Int32} {off : Int} (C : mm_C z k own cc nL ret d) (hdg : decode cc pc = .ok (.ifCond .lt off, 3)) (t q : Nat) (ht : (pc : Int) + off = (t : Int)) (hq : pc + 3 = q) (kt : x < 0 → mm_AW z k nL v0 F1 F t lv rest) (kf : ¬ x < 0 → mm_AW z k nL v0 F1 F q lv rest) : mm_AW z k nL v0 F1 F pc lv (.int x :: rest) := by
  obtain ⟨p, l, e, R, s, m, args, below, meth, c⟩ := z
  subst hq
  exact fun H lc ls hP hS hl => lv_if_lt C.1 C.2.1 hdg ht (fun h => kt h H lc ls hP hS hl) (fun h => kf h H lc ls hP hS hl)
theorem mm_icmp_lt {x y : Int32} {off : Int} (C : mm_C z k own cc nL ret d) (hdg : decode cc pc = .ok (.if_icmp .lt off, 3)) (t q : Nat) (ht : (pc : Int) + off = (t : Int)) (hq : pc + 3 = q) (kt : x < y → mm_AW z k nL v0 F1 F t lv rest) (kf : ¬ x < y → mm_AW z k nL v0 F1 F q lv rest) : mm_AW z k nL v0 F1 F pc lv (.int y :: .int x :: rest) := by
  obtain ⟨p, l, e, R, s, m, args, below, meth, c⟩ := z
  subst hq
  exact fun H lc ls hP hS hl => lv_icmp_lt C.1 C.2.1 hdg ht (fun h => kt h H lc ls hP hS hl) (fun h => kf h H lc ls hP hS hl)
theorem mm_if_ge {x : Int32} {off : Int} (C : mm_C z k own cc nL ret d) (hdg : decode cc pc = .ok (.ifCond .ge off, 3)) (t q : Nat) (ht : (pc : Int) + off = (t : Int)) (hq : pc + 3 = q) (kt : 0 ≤ x → mm_AW z k nL v0 F1 F t lv rest) (kf : ¬ 0 ≤ x → mm_AW z k nL v0 F1 F q lv rest) : mm_AW z k nL v0 F1 F pc lv (.int x :: rest) := by
  obtain ⟨p, l, e, R, s, m, args, below, meth, c⟩ := z
  subst hq
  exact fun H lc ls hP hS hl => lv_if_ge C.1 C.2.1 hdg ht (fun h => kt h H lc ls hP hS hl) (fun h => kf h H lc ls hP hS hl)
theorem mm_icmp_ge {x y : Int32} {off : Int} (C : mm_C z k own cc nL ret d) (hdg : decode cc pc = .ok (.if_icmp .ge off, 3)) (t q : Nat) (ht : (pc : Int) + off = (t : Int)) (hq : pc + 3 = q) (kt : y ≤ x → mm_AW z k nL v0 F1 F t lv rest) (kf : ¬ y ≤ x → mm_AW z k nL v0 F1 F q lv rest) : mm_AW z k nL v0 F1 F pc lv (.int y :: .int x :: rest) := by
  obtain ⟨p, l, e, R, s, m, args, below, meth, c⟩ := z
  subst hq
  exact fun H lc ls hP hS hl => lv_icmp_ge C.1 C.2.1 hdg ht (fun h => kt h H lc ls hP hS hl) (fun h => kf h H lc ls hP hS hl)
theorem mm_if_gt {x : Int32} {off : Int} (C : mm_C z k own cc nL ret d) (hdg : decode cc pc = .ok (.ifCond .gt off, 3)) (t q : Nat) (ht : (pc : Int) + off = (t : Int)) (hq : pc + 3 = q) (kt : 0 < x → mm_AW z k nL v0 F1 F t lv rest) (kf : ¬ 0 < x → mm_AW z k nL v0 F1 F q lv rest) : mm_AW z k nL v0 F1 F pc lv (.int x :: rest) := by
  obtain ⟨p, l, e, R, s, m, args, below, meth, c⟩ := z
  subst hq
  exact fun H lc ls hP hS hl => lv_if_gt C.1 C.2.1 hdg ht (fun h => kt h H lc ls hP hS hl) (fun h => kf h H lc ls hP hS hl)
theorem mm_icmp_gt {x y : Int32} {off : Int} (C : mm_C z k own cc nL ret d) (hdg : decode cc pc = .ok (.if_icmp .gt off, 3)) (t q : Nat) (ht : (pc : Int) + off = (t : Int)) (hq : pc + 3 = q) (kt : y < x → mm_AW z k nL v0 F1 F t lv rest) (kf : ¬ y < x → mm_AW z k nL v0 F1 F q lv rest) : mm_AW z k nL v0 F1 F pc lv (.int y :: .int x :: rest) := by
  obtain ⟨p, l, e, R, s, m, args, below, meth, c⟩ := z
  subst hq
  exact fun H lc ls hP hS hl => lv_icmp_gt C.1 C.2.1 hdg ht (fun h => kt h H lc ls hP hS hl) (fun h => kf h H lc ls hP hS hl)
theorem mm_if_le {x : Int32} {off : Int} (C : mm_C z k own cc nL ret d) (hdg : decode cc pc = .ok (.ifCond .le off, 3)) (t q : Nat) (ht : (pc : Int) + off = (t : Int)) (hq : pc + 3 = q) (kt : x ≤ 0 → mm_AW z k nL v0 F1 F t lv rest) (kf : ¬ x ≤ 0 → mm_AW z k nL v0 F1 F q lv rest) : mm_AW z k nL v0 F1 F pc lv (.int x :: rest) := by
  obtain ⟨p, l, e, R, s, m, args, below, meth, c⟩ := z
  subst hq
  exact fun H lc ls hP hS hl => lv_if_le C.1 C.2.1 hdg ht (fun h => kt h H lc ls hP hS hl) (fun h => kf h H lc ls hP hS hl)
theorem mm_icmp_le {x y : Int32} {off : Int} (C : mm_C z k own cc nL ret d) (hdg : decode cc pc = .ok (.if_icmp .le off, 3)) (t q : Nat) (ht : (pc : Int) + off = (t : Int)) (hq : pc + 3 = q) (kt : x ≤ y → mm_AW z k nL v0 F1 F t lv rest) (kf : ¬ x ≤ y → mm_AW z k nL v0 F1 F q lv rest) : mm_AW z k nL v0 F1 F pc lv (.int y :: .int x :: rest) := by
  obtain ⟨p, l, e, R, s, m, args, below, meth, c⟩ := z
  subst hq
  exact fun H lc ls hP hS hl => lv_icmp_le C.1 C.2.1 hdg ht (fun h => kt h H lc ls hP hS hl) (fun h => kf h H lc ls hP hS hl)
theorem mm_goto {off : Int} (C : mm_C z k own cc nL ret d) (hdg : decode cc pc = .ok (.goto off, 3)) (t : Nat) (ht : (pc : Int) + off = (t : Int)) (kk : mm_AW z k nL v0 F1 F t lv rest) : mm_AW z k nL v0 F1 F pc lv rest := by
  obtain ⟨p, l, e, R, s, m, args, below, meth, c⟩ := z
  exact fun H lc ls hP hS hl => lv_goto C.1 C.2.1 hdg ht (kk H lc ls hP hS hl)
theorem mm_tsw {x : Int32} {dflt o0 o1 o2 o3 o4 : Int} {len : Nat} (C : mm_C z k own cc nL ret d) (hdg : decode cc pc = .ok (.tableswitch dflt 0 4 #[o0, o1, o2, o3, o4], len)) (t0 t1 t2 t3 t4 td : Nat)
    (h0 : (pc : Int) + o0 = (t0 : Int)) (h1 : (pc : Int) + o1 = (t1 : Int)) (h2 : (pc : Int) + o2 = (t2 : Int)) (h3 : (pc : Int) + o3 = (t3 : Int)) (h4 : (pc : Int) + o4 = (t4 : Int)) (hd : (pc : Int) + dflt = (td : Int))
    (k0 : x = 0 → mm_AW z k nL v0 F1 F t0 lv rest) (k1 : x = 1 → mm_AW z k nL v0 F1 F t1 lv rest) (k2 : x = 2 → mm_AW z k nL v0 F1 F t2 lv rest) (k3 : x = 3 → mm_AW z k nL v0 F1 F t3 lv rest) (k4 : x = 4 → mm_AW z k nL v0 F1 F t4 lv rest)
    (kd : ¬ x = 0 → ¬ x = 1 → ¬ x = 2 → ¬ x = 3 → ¬ x = 4 → mm_AW z k nL v0 F1 F td lv rest) : mm_AW z k nL v0 F1 F pc lv (.int x :: rest) := by
  obtain ⟨p, l, e, R, s, m, args, below, meth, c⟩ := z
  intro H lc ls hP hS hl
  by_cases e0 : x = 0
  · subst e0; exact lv_tableIn C.1 C.2.1 hdg (by decide) (by decide) rfl h0 (k0 rfl H lc ls hP hS hl)
  by_cases e1 : x = 1
  · subst e1; exact lv_tableIn C.1 C.2.1 hdg (by decide) (by decide) rfl h1 (k1 rfl H lc ls hP hS hl)
  by_cases e2 : x = 2
  · subst e2; exact lv_tableIn C.1 C.2.1 hdg (by decide) (by decide) rfl h2 (k2 rfl H lc ls hP hS hl)
  by_cases e3 : x = 3
  · subst e3; exact lv_tableIn C.1 C.2.1 hdg (by decide) (by decide) rfl h3 (k3 rfl H lc ls hP hS hl)
  by_cases e4 : x = 4
  · subst e4; exact lv_tableIn C.1 C.2.1 hdg (by decide) (by decide) rfl h4 (k4 rfl H lc ls hP hS hl)
  refine lv_tableOut C.1 C.2.1 hdg ?_ hd (kd e0 e1 e2 e3 e4 H lc ls hP hS hl)
  have hx : ∀ j : Int32, ¬ x = j → x.toInt ≠ j.toInt := fun j h e => h (Int32.toInt_inj.mp e)
  have g0 := hx 0 e0
  have g1 := hx 1 e1
  have g2 := hx 2 e2
  have g3 := hx 3 e3
  have g4 := hx 4 e4
  have c0 : (0 : Int32).toInt = 0 := by decide
  have c1 : (1 : Int32).toInt = 1 := by decide
  have c2 : (2 : Int32).toInt = 2 := by decide
  have c3 : (3 : Int32).toInt = 3 := by decide
  have c4 : (4 : Int32).toInt = 4 := by decide
  omega
def mm_FL (own : String) (idx : Nat) (ref : String) (ci : Nat) (Cn : String) (T : u_T) (N j : Nat) : Prop := vwCl[ci]? = some (Cn, T, N) ∧ j < N ∧ (∀ w ∈ u_ws Cn T N, w ∈ mm_G) ∧ Cond.fieldLink own idx ref (T j).2.1 (T j).2.2.1 ∈ mm_G ∧ (ref = (T j).1 ∨ Cond.sameField ref (T j).1 (T j).2.1 (T j).2.2.1 ∈ mm_G)
theorem mm_same {s : State} {args : Array Value} {own ref Cn : String} {idx ci N j : Nat} {T : u_T} (hts : ∀ w ∈ mm_G, w.before args s = true) (w : mm_FL own idx ref ci Cn T N j) : ∀ x, s.fieldFound? (T j).1 (T j).2.1 (T j).2.2.1 = some x → s.fieldFound? ref (T j).2.1 (T j).2.2.1 = some x := by
  intro x hx
  rcases w.2.2.2.2 with h | h
  · rw [h]; exact hx
  · exact u_same (hts _ h) x hx
theorem mm_get {idx ci N j i : Nat} {ref Cn : String} {T : u_T} {fs : List Value} {v : Value} (C : mm_C z k own cc nL ret d) (w : mm_FL own idx ref ci Cn T N j) (hi : i < 114) (hc : mm_cell k i (F i) = .inr (ci, fs)) (hv : fs[j]? = some v) (hdg : decode cc pc = .ok (.getfield idx, 3)) (q : Nat) (hq : pc + 3 = q) (kk : mm_AW z k nL v0 F1 F q lv (v :: rest)) : mm_AW z k nL v0 F1 F pc lv (.ref (mmad k i) :: rest) := by
  obtain ⟨p, l, e, R, s, m, args, below, meth, c⟩ := z
  subst hq
  exact fun H lc ls hP hS hl => va_get (D := k.1) (C := Cn) (T := T) (N := N) (Ts := mm_G) C.1 C.2.1 C.2.2.2.2.2.1 w.2.2.1 C.2.2.2.2.1 C.2.2.2.2.2.2.1 hP i (by rw [mm_at k F hi, hc]) w.1 j w.2.1 (C.2.2.2.2.2.1 _ w.2.2.2.1) (mm_same C.2.2.2.2.2.1 w) hv hdg (kk H lc ls hP hS hl)
theorem mm_put {idx ci N j i : Nat} {ref Cn : String} {T : u_T} {fs : List Value} {v : Value} {x : Int32} {F2 : mmS} {ty : FieldType} (C : mm_C z k own cc nL ret d) (w : mm_FL own idx ref ci Cn T N j) (hi : i < 114) (hc : mm_cell k i (F i) = .inr (ci, fs)) (hs : mm_cell k i (upd (F i) j x) = .inr (ci, fs.set j v)) (ty0 : Nat → FieldType) (hty : ∀ k, k < N → parseFieldDescriptor (T k).2.2.1 = some (ty0 k)) (hnm : ∀ a, a < N → ∀ b, b < N → a ≠ b → (T a).2.1 ≠ (T b).2.1) (hfin : (T j).2.2.2 = false) (hd : parseFieldDescriptor (T j).2.2.1 = some ty) (hn : narrow ty v = v) (hft : fits ty v = true) (hl0 : j < fs.length) (he : stF F i j x = F2) (hdg : decode cc pc = .ok (.putfield idx, 3)) (q : Nat) (hq : pc + 3 = q) (kk : mm_AW z k nL v0 F1 F2 q lv rest) : mm_AW z k nL v0 F1 F pc lv (v :: .ref (mmad k i) :: rest) := by
  obtain ⟨p, l, e, R, s, m, args, below, meth, c⟩ := z
  subst hq
  subst he
  exact fun H lc ls hP hS hl => va_put (D := k.1) (C := Cn) (T := T) (N := N) (Ts := mm_G) (A := mm_A k) C.1 C.2.1 C.2.2.2.2.2.1 w.2.2.1 ty0 hty hnm C.2.2.2.2.1 C.2.2.2.2.2.2.1 hP (mm_D F C.2.2.2.2.2.2.2.2.1) hS i (by rw [mm_at k F hi, hc]) w.1 j w.2.1 (C.2.2.2.2.2.1 _ w.2.2.2.1) (mm_same C.2.2.2.2.2.1 w) hfin hd hn hft hl0 hdg (fun H1 l1 hP1 _ hS1 => kk H1 l1 ls (by
    rw [← hs, mm_set k F hi] at hP1
    exact hP1) hS1 hl)
theorem mm_iald {i : Nat} {x v : Int32} (C : mm_C z k own cc nL ret d) (he : ald F i x = some v) (hdg : decode cc pc = .ok (.iaload, 1)) (q : Nat) (hq : pc + 1 = q) (kk : mm_AW z k nL v0 F1 F q lv (.int v :: rest)) : mm_AW z k nL v0 F1 F pc lv (.int x :: .ref (mmad k i) :: rest) := by
  obtain ⟨p, l, e, R, s, m, args, below, meth, c⟩ := z
  subst hq
  unfold ald at he
  by_cases hy : x < 0 ∨ mm_len i ≤ x.toNatClampNeg
  · rw [if_pos hy] at he; cases he
  · rw [if_neg hy] at he
    cases he
    have hl : mm_len i ≠ 0 := fun h => hy (Or.inr (by rw [h]; exact Nat.zero_le _))
    exact fun H lc ls hP hS hl2 => va_iald C.1 C.2.1 C.2.2.2.2.2.2.1 hP i 0 (by rw [mm_at k F (mm_len_lt hl), mm_arr hl]) rfl hy hdg (kk H lc ls hP hS hl2)
theorem mm_iast {i : Nat} {x v : Int32} {F2 : mmS} (C : mm_C z k own cc nL ret d) (he : ast F i x v = some F2) (hdg : decode cc pc = .ok (.iastore, 1)) (q : Nat) (hq : pc + 1 = q) (kk : mm_AW z k nL v0 F1 F2 q lv rest) : mm_AW z k nL v0 F1 F pc lv (.int v :: .int x :: .ref (mmad k i) :: rest) := by
  obtain ⟨p, l, e, R, s, m, args, below, meth, c⟩ := z
  subst hq
  unfold ast at he
  by_cases hy : x < 0 ∨ mm_len i ≤ x.toNatClampNeg
  · rw [if_pos hy] at he; cases he
  · rw [if_neg hy] at he
    cases he
    have hl : mm_len i ≠ 0 := fun h => hy (Or.inr (by rw [h]; exact Nat.zero_le _))
    exact fun H lc ls hP hS hl2 => va_iast C.1 C.2.1 C.2.2.2.2.2.2.1 hP (mm_D F C.2.2.2.2.2.2.2.2.1) hS i 0 (by rw [mm_at k F (mm_len_lt hl), mm_arr hl]) rfl hy hdg (fun H1 l1 hP1 _ hS1 => kk H1 l1 ls (by
      rw [← mm_arr (k := k) hl, mm_set k F (mm_len_lt hl)] at hP1
      exact hP1) hS1 hl2)
theorem mm_zald {x v : Int32} (C : mm_C z k own cc nL ret d) (he : zld F x = some v) (hdg : decode cc pc = .ok (.baload, 1)) (q : Nat) (hq : pc + 1 = q) (kk : mm_AW z k nL v0 F1 F q lv (.int v :: rest)) : mm_AW z k nL v0 F1 F pc lv (.int x :: .ref (mmad k 109) :: rest) := by
  obtain ⟨p, l, e, R, s, m, args, below, meth, c⟩ := z
  subst hq
  unfold zld at he
  by_cases hy : x < 0 ∨ 4 ≤ x.toNatClampNeg
  · rw [if_pos hy] at he; cases he
  · rw [if_neg hy] at he
    cases he
    exact fun H lc ls hP hS hl2 => va_zald (n := 4) C.1 C.2.1 C.2.2.2.2.2.2.1 hP 109 1 (by rw [mm_at k F (by decide), mc_109]) rfl hy hdg (kk H lc ls hP hS hl2)
theorem mm_zast {x v : Int32} {F2 : mmS} (C : mm_C z k own cc nL ret d) (he : zst F x v = some F2) (hdg : decode cc pc = .ok (.bastore, 1)) (q : Nat) (hq : pc + 1 = q) (kk : mm_AW z k nL v0 F1 F2 q lv rest) : mm_AW z k nL v0 F1 F pc lv (.int v :: .int x :: .ref (mmad k 109) :: rest) := by
  obtain ⟨p, l, e, R, s, m, args, below, meth, c⟩ := z
  subst hq
  unfold zst at he
  by_cases hy : x < 0 ∨ 4 ≤ x.toNatClampNeg
  · rw [if_pos hy] at he; cases he
  · rw [if_neg hy] at he
    by_cases hz : v = 0 ∨ v = 1
    · rw [if_pos hz] at he
      cases he
      have hv : vp_nar .boolean v = v := by rcases hz with rfl | rfl <;> rfl
      exact fun H lc ls hP hS hl2 => va_zast (n := 4) C.1 C.2.1 C.2.2.2.2.2.2.1 hP (mm_D F C.2.2.2.2.2.2.2.2.1) hS 109 1 (by rw [mm_at k F (by decide), mc_109]) rfl hy hdg (fun H1 l1 hP1 _ hS1 => kk H1 l1 ls (by
        rw [hv, ← mc_109 k, mm_set k F (by decide)] at hP1
        exact hP1) hS1 hl2)
    · rw [if_neg hz] at he; cases he
theorem mm_aald {i t0 j : Nat} {x : Int32} {cA : ClassId} {ty : FieldType} (C : mm_C z k own cc nL ret d) (hi : i < 114) (hc : mm_cell k i (F i) = .inl (cA, mm_lenR i, .inr (.inr (.inr (.inr (fun j => some (mmad k (mm_tab i j)))))))) (ht : (mm_ty k)[t0]? = some (cA, ty)) (hr : ty.isReference = true) (he : rld i x = some j) (hdg : decode cc pc = .ok (.aaload, 1)) (q : Nat) (hq : pc + 1 = q) (kk : mm_AW z k nL v0 F1 F q lv (.ref (mmad k j) :: rest)) : mm_AW z k nL v0 F1 F pc lv (.int x :: .ref (mmad k i) :: rest) := by
  obtain ⟨p, l, e, R, s, m, args, below, meth, c⟩ := z
  subst hq
  unfold rld at he
  by_cases hy : x < 0 ∨ mm_lenR i ≤ x.toNatClampNeg
  · rw [if_pos hy] at he; cases he
  · rw [if_neg hy] at he
    cases he
    have hlt : x.toNatClampNeg < mm_lenR i := Nat.not_le.mp fun q => hy (Or.inr q)
    intro H lc ls hP hS hl2
    have ha : (mm_W k F)[i]? = some (mmad k i, .inl (cA, mm_lenR i, .inr (.inr (.inr (.inr (fun j => some (mmad k (mm_tab i j)))))))) := by rw [mm_at k F hi, hc]
    exact W.aald (v := .ref (mmad k (mm_tab i x.toNatClampNeg))) (ty := ty) C.1 C.2.1 (hP i _ ha) ((C.2.2.2.2.2.2.1.2 t0 _ ht).1 (mm_lenR i) (fun j => va_rf (some (mmad k (mm_tab i j))))) hr (fun q => by cases q) (by show ¬ (x < 0 ∨ (arrV _ _ _).slots.size ≤ _); rw [arrV_size]; exact hy) (by show (arrV _ _ _).slots[_]? = _; rw [arrV_read _ _ hlt]; rfl) rfl rfl hdg (kk H lc ls hP hS hl2)
theorem mm_alen {i : Nat} {v : Int32} (C : mm_C z k own cc nL ret d) (hl : mm_len i ≠ 0) (hv : Int32.ofNat (mm_len i) = v) (hdg : decode cc pc = .ok (.arraylength, 1)) (q : Nat) (hq : pc + 1 = q) (kk : mm_AW z k nL v0 F1 F q lv (.int v :: rest)) : mm_AW z k nL v0 F1 F pc lv (.ref (mmad k i) :: rest) := by
  obtain ⟨p, l, e, R, s, m, args, below, meth, c⟩ := z
  subst hq
  exact fun H lc ls hP hS hl2 => va_alen (x := (mm_len i, .inl (F i))) C.1 C.2.1 C.2.2.2.2.2.2.1 hP i 0 (by rw [mm_at k F (mm_len_lt hl), mm_arr hl]) (ty := .int) rfl hv hdg (kk H lc ls hP hS hl2)
theorem mm_copy {i1 i2 idx : Nat} {sp dp n : Int32} {F2 : mmS} (C : mm_C z k own cc nL ret d) (he : mcpy F i1 sp i2 dp n = some F2) (w1 : Cond.methodLink own idx arraycopyName ∈ mm_G) (w2 : Cond.native arraycopyName ∈ mm_G) (w3 : Cond.static arraycopyName ∈ mm_G) (w4 : Cond.initialized "java/lang/System" ∈ mm_G) (hd1 : 1 ≤ d) (hd2 : (rest.map fun v => v.category).sum + (nativeFrameWords "java/lang/System" "arraycopy" 5 + 11) ≤ 40 * d) (hdg : decode cc pc = .ok (.invokestatic idx, 3)) (q : Nat) (hq : pc + 3 = q) (kk : mm_AW z k nL v0 F1 F2 q lv rest) : mm_AW z k nL v0 F1 F pc lv (.int n :: .int dp :: .ref (mmad k i2) :: .int sp :: .ref (mmad k i1) :: rest) := by
  obtain ⟨p, l, e, R, s, m, args, below, meth, c⟩ := z
  subst hq
  unfold mcpy at he
  split at he
  · cases he
  · rename_i hy
    cases he
    have h1 : mm_len i1 ≠ 0 := fun h => hy (Or.inr (Or.inl h))
    have h2 : mm_len i2 ≠ 0 := fun h => hy (Or.inr (Or.inr (Or.inl h)))
    have hR : R = mm_rm d := C.2.2.2.2.2.2.2.2.2.2
    intro H lc ls hP hS hl2
    exact va_copyi (ty := .int) C.1 C.2.1 (C.2.2.2.1.trans hl2.1.symm) C.2.2.2.2.1 (C.2.2.2.2.2.1 _ w1) (C.2.2.2.2.2.1 _ w2) (C.2.2.2.2.2.1 _ w3) (C.2.2.2.2.2.1 _ w4) C.2.2.2.2.2.2.1 hP (mm_D F C.2.2.2.2.2.2.2.2.1) hS i1 i2 0 0 (by rw [mm_at k F (mm_len_lt h1), mm_arr h1]) (by rw [mm_at k F (mm_len_lt h2), mm_arr h2]) rfl rfl rfl
      (fun h => hy (Or.inl (Or.inl h))) (fun h => hy (Or.inl (Or.inr (Or.inl h)))) (fun h => hy (Or.inl (Or.inr (Or.inr h)))) (Nat.not_lt.mp fun h => hy (Or.inr (Or.inr (Or.inr (Or.inl h))))) (Nat.not_lt.mp fun h => hy (Or.inr (Or.inr (Or.inr (Or.inr h))))) (fun _ _ => rfl) (by rw [hR]; exact hd1) (by rw [hR]; exact hd2) hdg (fun H1 l1 hP1 _ hS1 => kk H1 l1 ls (by
        rw [← mm_arr (k := k) h2, mm_set k F (mm_len_lt h2)] at hP1
        exact hP1) hS1 hl2)
theorem mm_abs {idx : Nat} {x : Int32} (C : mm_C z k own cc nL ret d) (w1 : Cond.methodLink own idx Lib.Math.abs.name ∈ mm_G) (w2 : Cond.static Lib.Math.abs.name ∈ mm_G) (w3 : Cond.initialized "java/lang/Math" ∈ mm_G) (w4 : Cond.code Lib.Math.abs.name Lib.Math.abs.code 1 (some .int) ∈ mm_G) (hd1 : 1 ≤ d) (hd2 : (rest.map fun v => v.category).sum + 13 ≤ 40 * d) (hdg : decode cc pc = .ok (.invokestatic idx, 3)) (q : Nat) (hq : pc + 3 = q) (kk : mm_AW z k nL v0 F1 F q lv (.int (mabs x) :: rest)) : mm_AW z k nL v0 F1 F pc lv (.int x :: rest) := by
  obtain ⟨p, l, e, R, s, m, args, below, meth, c⟩ := z
  subst hq
  have hR : R = mm_rm d := C.2.2.2.2.2.2.2.2.2.2
  exact fun H lc ls hP hS hl => va_mabs C.1 C.2.1 (C.2.2.2.1.trans hl.1.symm) C.2.2.2.2.1 (C.2.2.2.2.2.1 _ w1) (C.2.2.2.2.2.1 _ w2) (C.2.2.2.2.2.1 _ w3) (C.2.2.2.2.2.1 _ w4) (by rw [hR]; exact hd1) (by rw [hR]; exact hd2) (Nat.zero_le _) (Nat.zero_le _) hdg (kk H lc ls hP hS hl)
theorem mm_min {idx : Nat} {x y : Int32} (C : mm_C z k own cc nL ret d) (w1 : Cond.methodLink own idx Lib.Math.min.name ∈ mm_G) (w2 : Cond.static Lib.Math.min.name ∈ mm_G) (w3 : Cond.initialized "java/lang/Math" ∈ mm_G) (w4 : Cond.code Lib.Math.min.name Lib.Math.min.code 2 (some .int) ∈ mm_G) (hd1 : 1 ≤ d) (hd2 : (rest.map fun v => v.category).sum + 13 ≤ 40 * d) (hdg : decode cc pc = .ok (.invokestatic idx, 3)) (q : Nat) (hq : pc + 3 = q) (kk : mm_AW z k nL v0 F1 F q lv (.int (mmin x y) :: rest)) : mm_AW z k nL v0 F1 F pc lv (.int y :: .int x :: rest) := by
  obtain ⟨p, l, e, R, s, m, args, below, meth, c⟩ := z
  subst hq
  have hR : R = mm_rm d := C.2.2.2.2.2.2.2.2.2.2
  exact fun H lc ls hP hS hl => va_mmin C.1 C.2.1 (C.2.2.2.1.trans hl.1.symm) C.2.2.2.2.1 (C.2.2.2.2.2.1 _ w1) (C.2.2.2.2.2.1 _ w2) (C.2.2.2.2.2.1 _ w3) (C.2.2.2.2.2.1 _ w4) (by rw [hR]; exact hd1) (by rw [hR]; exact hd2) (Nat.zero_le _) (Nat.zero_le _) hdg (kk H lc ls hP hS hl)
theorem mm_iretW {x r : Int32} (C : mm_C z k own cc nL (some .int) d) (h : some (x, F) = some (r, F1)) (hdg : decode cc pc = .ok (.ireturn, 1)) : mm_AW z k nL (some (.int r)) F1 F pc lv [.int x] := by
  obtain ⟨p, l, e, R, s, m, args, below, meth, c⟩ := z
  cases h
  exact fun H lc ls hP hS hl => W.iret C.1 C.2.1 C.2.2.1 (fun t ht hW => ⟨rfl, by rw [ht]; exact hP, hS.F ht⟩) hS.2.2 hdg C.2.2.2.2.2.2.2.2.2.1
theorem mm_iretP {x r : Int32} (C : mm_C z k own cc nL (some .int) d) (h : some x = some r) (hdg : decode cc pc = .ok (.ireturn, 1)) : mm_AW z k nL (some (.int r)) F F pc lv [.int x] := by
  cases h
  exact mm_iretW C rfl hdg
theorem mm_zretW {x y r : Int32} (C : mm_C z k own cc nL (some .boolean) d) (hz : zg x = some y) (h : some (y, F) = some (r, F1)) (hdg : decode cc pc = .ok (.ireturn, 1)) : mm_AW z k nL (some (.int r)) F1 F pc lv [.int x] := by
  obtain ⟨p, l, e, R, s, m, args, below, meth, c⟩ := z
  unfold zg at hz
  by_cases hy : x = 0 ∨ x = 1
  · rw [if_pos hy] at hz
    cases hz
    cases h
    exact fun H lc ls hP hS hl => W.zret (ty := .boolean) C.1 C.2.1 C.2.2.1 (by rcases hy with rfl | rfl <;> rfl) (fun t ht hW => ⟨rfl, by rw [ht]; exact hP, hS.F ht⟩) hS.2.2 hdg C.2.2.2.2.2.2.2.2.2.1
  · rw [if_neg hy] at hz; cases hz
theorem mm_zretP {x y r : Int32} (C : mm_C z k own cc nL (some .boolean) d) (hz : zg x = some y) (h : some y = some r) (hdg : decode cc pc = .ok (.ireturn, 1)) : mm_AW z k nL (some (.int r)) F F pc lv [.int x] := by
  cases h
  exact mm_zretW C hz rfl hdg
theorem mm_vretW (C : mm_C z k own cc nL none d) (h : some F = some F1) (hdg : decode cc pc = .ok (.return_, 1)) : mm_AW z k nL none F1 F pc lv [] := by
  obtain ⟨p, l, e, R, s, m, args, below, meth, c⟩ := z
  cases h
  exact fun H lc ls hP hS hl => W.vret C.1 C.2.1 C.2.2.1 (fun t ht hW => ⟨rfl, by rw [ht]; exact hP, hS.F ht⟩) hS.2.2 hdg C.2.2.2.2.2.2.2.2.2.1
theorem mm_lretW {x r : Int64} (C : mm_C z k own cc nL (some .long) d) (h : some (x, F) = some (r, F1)) (hdg : decode cc pc = .ok (.lreturn, 1)) : mm_AW z k nL (some (.long r)) F1 F pc lv [.long x] := by
  obtain ⟨p, l, e, R, s, m, args, below, meth, c⟩ := z
  cases h
  exact fun H lc ls hP hS hl => W.lret C.1 C.2.1 C.2.2.1 (fun t ht hW => ⟨rfl, by rw [ht]; exact hP, hS.F ht⟩) hS.2.2 hdg C.2.2.2.2.2.2.2.2.2.1
end MMR
end
section
def mm_CB (y : MethodName) (cc : ByteArray) (nL : Nat) (ret : Option FieldType) (n : Nat) : Prop := Cond.code y cc nL ret ∈ mm_G ∧ Cond.initialized y.cls ∈ mm_G ∧ (y.cls ≠ "java/lang/invoke/MethodHandle" ∧ y.cls ≠ "java/lang/invoke/VarHandle") ∧ (parseMethodDescriptor y.desc).map (fun d => d.parameters.length) = some n ∧ nL ≤ 21
def mm_VW (own : String) (idx : Nat) (y : MethodName) : Prop := Cond.methodLink own idx y ∈ mm_G ∧ Cond.instanceMethod y ∈ mm_G ∧ Cond.selects y.cls y y ∈ mm_G
def mm_SW (own : String) (idx : Nat) (y : MethodName) : Prop := Cond.methodLink own idx y ∈ mm_G ∧ Cond.static y ∈ mm_G
def mm_UW (own : String) (idx : Nat) (Cn : String) (x y : MethodName) : Prop := Cond.methodLink own idx x ∈ mm_G ∧ Cond.sameMethod x.cls RX7 x.name x.desc ∈ mm_G ∧ Cond.selects Cn x y ∈ mm_G ∧ Cond.instanceMethod y ∈ mm_G ∧ x.desc = y.desc
def mm_PW (own : String) (idx : Nat) (y : MethodName) : Prop := Cond.methodLink own idx y ∈ mm_G ∧ Cond.sameMethod y.cls y.cls y.name y.desc ∈ mm_G ∧ Cond.superclass own y.cls ∈ mm_G ∧ Cond.instanceMethod y ∈ mm_G ∧ y.name ≠ "<init>"
theorem mm_blind (k : mmK) (av : List Value) (F : mmS) : FrameBlind (va_Pc av (mm_B k F)) := fun a U g mk h => ⟨h.1, h.2.1, va_K.moved (u := U) (U := U.calling g mk a) (Vm.Alike.refl U.vm) h.2.2.1, mm_N.same (s := U) (U := U.calling g mk a) rfl h.2.2.2.1, h.2.2.2.2⟩
theorem mm_pre {k : mmK} {F : mmS} {s : State} {H : Heap} {av : List Value} (hP : va_P k.1 vwCl (mm_W k F) H) (hK : va_K k.1 vwCl (mm_ty k) s) (hN : mm_N s) (hI : mm_inj k) : ∀ U : State, U.heap = H → s.WarmedH U.vm → va_Pc av (mm_B k F) av.toArray U := fun U hU hW => ⟨rfl, by rw [hU]; exact hP, va_K.moved hW.alike hK, mm_N.warm hW hN, hI⟩
section MMA
variable {p : Program} {l : Launch} {e : Env} {R : Room} {s : State} {m : MethodId} {args : Array Value} {below : List Frame} {meth : Method} {c : Code} {H : Heap} {lc : List Loc} {Q : State → Prop}
theorem mm_after {k : mmK} {v : Option Value} {F2 : mmS} {a : Array Value} {pc : Nat} {ls : Array Slot} {st0 rest : List Value} (hr : va_Run p l e R s m args below meth c H lc 0 0 0 0 (F0 m pc ls st0) rest (mm_Q k v F2 a) (mm_A k)) (hS : va_S (mm_A k) s.heap H lc)
    (kk : ∀ (H1 : Heap) (lc1 : List Loc), va_P k.1 vwCl (mm_W k F2) H1 → va_S (mm_A k) s.heap H1 lc1 → W p l e R s m args below meth c H1 lc1 0 0 Q (F0 m (pc + 3) ls (v.toList ++ rest))) : W p l e R s m args below meth c H lc 0 0 Q (F0 m pc ls st0) := by
  intro T hT X
  obtain ⟨v2, st₀, t, T', L, h0, X', hL, e1, e2, ⟨hv, hp, hz, hk⟩, st⟩ := hr T hT X
  cases hv
  rw [h0] at hz hk
  obtain ⟨t2, a1, b1⟩ := kk T'.heap (lc ++ L) (by rw [e1]; exact hp)
    ⟨Nat.le_trans hS.1 (by rw [e1]; exact hz), fun q h1 h2 => by rw [e1, hk q (Nat.lt_of_lt_of_le h1 hS.1) h2]; exact hS.2.1 q h1 h2, fun q hq => by
      rcases List.mem_append.mp hq with h | h
      · exact hS.2.2 q h
      · exact hL q h⟩ T' rfl X'
  exact ⟨t2, st t2 a1, b1⟩
end MMA
section MMC
variable {z : mmZ} {k : mmK} {own : String} {cc : ByteArray} {nL d pc : Nat} {ret : Option FieldType} {v0 : Option Value} {F1 F : mmS} {lv : List (Nat × Value)} {rest : List Value}
variable {y : MethodName} {bytes : ByteArray} {mL dc n idx : Nat} {rt : Option FieldType} {F2 : mmS} {v : Option Value}
theorem mm_callV {i ci N : Nat} {Cn : String} {T : u_T} {fs : List Value} {st : List Value} (As : List Value) (C : mm_C z k own cc nL ret d) (hT : mm_T (mm_l z) k y bytes mL rt dc (.ref (mmad k i) :: As) F v F2) (wb : mm_CB y bytes mL rt n) (w : mm_VW own idx y) (hi : i < 114) (hc : mm_cell k i (F i) = .inr (ci, fs)) (hcl : vwCl[ci]? = some (Cn, T, N)) (hy : y.cls = Cn) (hn : As.length = n) (hd : dc + 1 ≤ d) (hst : st = As.reverse ++ .ref (mmad k i) :: rest) (hr : (rest.map fun v => v.category).sum ≤ 8) (hdg : decode cc pc = .ok (.invokevirtual idx, 3)) (q : Nat) (hq : pc + 3 = q) (kk : mm_AW z k nL v0 F1 F2 q lv (v.toList ++ rest)) : mm_AW z k nL v0 F1 F pc lv st := by
  obtain ⟨p, l, e, R, s, m, args, below, meth, c⟩ := z
  subst hq
  subst hst
  subst hy
  have hR : R = mm_rm d := C.2.2.2.2.2.2.2.2.2.2
  subst hR
  intro H lc ls hP hS hl
  have hts := C.2.2.2.2.2.1
  have cb : CallB (mm_rm d) s args own idx y bytes mL rt (.code y bytes mL rt :: mm_G) (mm_rm dc) 0 0 n := callB_of (Ts := mm_G) n hts (mm_good0 wb.1) rfl rfl rfl (hts _ wb.2.1) (hts _ w.1) ⟨wb.2.2.1.1, wb.2.2.1.2, wb.2.2.2.1⟩ ⟨hd, by have := wb.2.2.2.2; show 8 + (mL + 11) + 40 * dc ≤ 40 * d; omega⟩
  exact mm_after (va_runV (As := As) (rest := rest) (C := y.cls) (b := mmad k i) (g := F0 m pc ls (As.reverse ++ .ref (mmad k i) :: rest)) ⟨C.1, C.2.1, C.2.2.2.1, C.2.2.2.2.1, hts⟩ hT ⟨cb, hts _ w.2.1, hts _ w.2.2⟩ ⟨mm_blind k _ F, va_recv C.2.2.2.2.2.2.1 hP (ci := ci) (q0 := i) hcl (by rw [mm_at k F hi, hc]), mm_pre hP C.2.2.2.2.2.2.1 C.2.2.2.2.2.2.2.1 C.2.2.2.2.2.2.2.2.1⟩ rfl hn hl.1 rfl (lv_room hr) hdg ⟨Nat.zero_le _, Nat.zero_le _⟩) hS (fun H1 l1 hP1 hS1 => kk H1 l1 ls hP1 hS1 hl)
theorem mm_callS {st : List Value} (As : List Value) (C : mm_C z k own cc nL ret d) (hT : mm_T (mm_l z) k y bytes mL rt dc As F v F2) (wb : mm_CB y bytes mL rt n) (w : mm_SW own idx y) (hn : As.length = n) (hd : dc + 1 ≤ d) (hst : st = As.reverse ++ rest) (hr : (rest.map fun v => v.category).sum ≤ 8) (hdg : decode cc pc = .ok (.invokestatic idx, 3)) (q : Nat) (hq : pc + 3 = q) (kk : mm_AW z k nL v0 F1 F2 q lv (v.toList ++ rest)) : mm_AW z k nL v0 F1 F pc lv st := by
  obtain ⟨p, l, e, R, s, m, args, below, meth, c⟩ := z
  subst hq
  subst hst
  have hR : R = mm_rm d := C.2.2.2.2.2.2.2.2.2.2
  subst hR
  intro H lc ls hP hS hl
  have hts := C.2.2.2.2.2.1
  have cb : CallB (mm_rm d) s args own idx y bytes mL rt (.code y bytes mL rt :: mm_G) (mm_rm dc) 0 0 n := callB_of (Ts := mm_G) n hts (mm_good0 wb.1) rfl rfl rfl (hts _ wb.2.1) (hts _ w.1) ⟨wb.2.2.1.1, wb.2.2.1.2, wb.2.2.2.1⟩ ⟨hd, by have := wb.2.2.2.2; show 8 + (mL + 11) + 40 * dc ≤ 40 * d; omega⟩
  exact mm_after (va_runS (As := As) (rest := rest) (g := F0 m pc ls (As.reverse ++ rest)) ⟨C.1, C.2.1, C.2.2.2.1, C.2.2.2.2.1, hts⟩ hT ⟨cb, hts _ w.2⟩ ⟨mm_blind k _ F, mm_pre hP C.2.2.2.2.2.2.1 C.2.2.2.2.2.2.2.1 C.2.2.2.2.2.2.2.2.1⟩ rfl hn hl.1 rfl (lv_room hr) hdg ⟨Nat.zero_le _, Nat.zero_le _⟩) hS (fun H1 l1 hP1 hS1 => kk H1 l1 ls hP1 hS1 hl)
theorem mm_callN {st : List Value} (As : List Value) (C : mm_C z k RX6 cc nL ret d) (hT : mm_T (mm_l z) k yX11_isWithin bytes mL rt dc As F v F2) (wb : mm_CB yX11_isWithin bytes mL rt n) (w : Cond.static yX11_isWithin ∈ mm_G) (hn : As.length = n) (hd : dc + 1 ≤ d) (hst : st = As.reverse ++ rest) (hr : (rest.map fun v => v.category).sum ≤ 8) (hdg : decode cc pc = .ok (.invokestatic 40, 3)) (q : Nat) (hq : pc + 3 = q) (kk : mm_AW z k nL v0 F1 F2 q lv (v.toList ++ rest)) : mm_AW z k nL v0 F1 F pc lv st := by
  obtain ⟨p, l, e, R, s, m, args, below, meth, c⟩ := z
  subst hq
  subst hst
  have hR : R = mm_rm d := C.2.2.2.2.2.2.2.2.2.2
  subst hR
  intro H lc ls hP hS hl
  have hts := C.2.2.2.2.2.1
  have cb : va_CN (mm_rm d) s args RX6 40 yX11_isWithin RX11 bytes mL rt (.code yX11_isWithin bytes mL rt :: mm_G) (mm_rm dc) 0 0 n := va_cnB (Ts := mm_G) n hts (mm_good0 wb.1) rfl rfl rfl C.2.2.2.2.2.2.2.1.1 (hts _ wb.2.1) ⟨wb.2.2.1.1, wb.2.2.1.2, wb.2.2.2.1⟩ ⟨hd, by have := wb.2.2.2.2; show 8 + (mL + 11) + 40 * dc ≤ 40 * d; omega⟩
  exact mm_after (va_runSN (As := As) (rest := rest) (g := F0 m pc ls (As.reverse ++ rest)) ⟨C.1, C.2.1, C.2.2.2.1, C.2.2.2.2.1, hts⟩ hT ⟨cb, hts _ w, trivial⟩ ⟨mm_blind k _ F, mm_pre hP C.2.2.2.2.2.2.1 C.2.2.2.2.2.2.2.1 C.2.2.2.2.2.2.2.2.1⟩ rfl hn hl.1 rfl (lv_room hr) hdg ⟨Nat.zero_le _, Nat.zero_le _⟩) hS (fun H1 l1 hP1 hS1 => kk H1 l1 ls hP1 hS1 hl)
theorem mm_callU {x : MethodName} {i ci N : Nat} {Cn : String} {T : u_T} {fs : List Value} {st : List Value} (As : List Value) (C : mm_C z k own cc nL ret d) (hT : mm_T (mm_l z) k y bytes mL rt dc (.ref (mmad k i) :: As) F v F2) (wb : mm_CB y bytes mL rt n) (w : mm_UW own idx Cn x y) (hdc : ∀ s : State, mm_N s → va_Nw (.declares ⟨RX7, x.name, x.desc⟩) s) (hi : i < 114) (hc : mm_cell k i (F i) = .inr (ci, fs)) (hcl : vwCl[ci]? = some (Cn, T, N)) (hn : As.length = n) (hd : dc + 1 ≤ d) (hst : st = As.reverse ++ .ref (mmad k i) :: rest) (hr : (rest.map fun v => v.category).sum ≤ 8) (hdg : decode cc pc = .ok (.invokevirtual idx, 3)) (q : Nat) (hq : pc + 3 = q) (kk : mm_AW z k nL v0 F1 F2 q lv (v.toList ++ rest)) : mm_AW z k nL v0 F1 F pc lv st := by
  obtain ⟨p, l, e, R, s, m, args, below, meth, c⟩ := z
  subst hq
  subst hst
  have hR : R = mm_rm d := C.2.2.2.2.2.2.2.2.2.2
  subst hR
  intro H lc ls hP hS hl
  have hts := C.2.2.2.2.2.1
  have cb : va_CU (mm_rm d) s args own Cn RX7 idx x y bytes mL rt (.code y bytes mL rt :: mm_G) (mm_rm dc) 0 0 n := by
    refine ⟨⟨rfl, rfl, hd, by have := wb.2.2.2.2; show 8 + (mL + 11) + 40 * dc ≤ 40 * d; omega, pay_in hts (mm_good0 wb.1), List.mem_cons_self⟩, hts _ wb.1, hts _ wb.2.1, ⟨by decide, by decide⟩, fun sig h => ?_, hts _ w.1, hts _ w.2.1, va_Decl.abs (hdc s C.2.2.2.2.2.2.2.1), hts _ w.2.2.1, hts _ w.2.2.2.1⟩
    have h2 := wb.2.2.2.1
    rw [← w.2.2.2.2, h] at h2
    exact (Option.some.inj h2).symm
  exact mm_after (va_runU (As := As) (rest := rest) (C := Cn) (b := mmad k i) (g := F0 m pc ls (As.reverse ++ .ref (mmad k i) :: rest)) ⟨C.1, C.2.1, C.2.2.2.1, C.2.2.2.2.1, hts⟩ hT cb ⟨mm_blind k _ F, va_recv C.2.2.2.2.2.2.1 hP (ci := ci) (q0 := i) hcl (by rw [mm_at k F hi, hc]), mm_pre hP C.2.2.2.2.2.2.1 C.2.2.2.2.2.2.2.1 C.2.2.2.2.2.2.2.2.1⟩ rfl hn hl.1 rfl (lv_room hr) hdg ⟨Nat.zero_le _, Nat.zero_le _⟩) hS (fun H1 l1 hP1 hS1 => kk H1 l1 ls hP1 hS1 hl)
theorem mm_callP {i ci N : Nat} {Cn : String} {T : u_T} {fs : List Value} {st : List Value} (As : List Value) (C : mm_C z k own cc nL ret d) (hT : mm_T (mm_l z) k y bytes mL rt dc (.ref (mmad k i) :: As) F v F2) (wb : mm_CB y bytes mL rt n) (w : mm_PW own idx y) (hi : i < 114) (hc : mm_cell k i (F i) = .inr (ci, fs)) (hcl : vwCl[ci]? = some (Cn, T, N)) (hn : As.length = n) (hd : dc + 1 ≤ d) (hst : st = As.reverse ++ .ref (mmad k i) :: rest) (hr : (rest.map fun v => v.category).sum ≤ 8) (hdg : decode cc pc = .ok (.invokespecial idx, 3)) (q : Nat) (hq : pc + 3 = q) (kk : mm_AW z k nL v0 F1 F2 q lv (v.toList ++ rest)) : mm_AW z k nL v0 F1 F pc lv st := by
  obtain ⟨p, l, e, R, s, m, args, below, meth, c⟩ := z
  subst hq
  subst hst
  have hR : R = mm_rm d := C.2.2.2.2.2.2.2.2.2.2
  subst hR
  intro H lc ls hP hS hl
  have hts := C.2.2.2.2.2.1
  have cb : va_CS (mm_rm d) s args own idx y bytes mL rt (.code y bytes mL rt :: mm_G) (mm_rm dc) 0 0 n := by
    refine ⟨⟨rfl, rfl, hd, by have := wb.2.2.2.2; show 8 + (mL + 11) + 40 * dc ≤ 40 * d; omega, pay_in hts (mm_good0 wb.1), List.mem_cons_self⟩, hts _ w.1, hts _ w.2.1, hts _ w.2.2.1, hts _ w.2.2.2.1, hts _ wb.2.1, hts _ wb.1, w.2.2.2.2, fun sig h => ?_⟩
    have h2 := wb.2.2.2.1
    rw [h] at h2
    exact (Option.some.inj h2).symm
  exact mm_after (va_runSU (C := Cn) (cC := k.1.1 ci) (C.2.2.2.2.2.2.1.1 ci _ hcl).2 (As := As) (rest := rest) (b := mmad k i) (g := F0 m pc ls (As.reverse ++ .ref (mmad k i) :: rest)) ⟨C.1, C.2.1, C.2.2.2.1, C.2.2.2.2.1, hts⟩ hT cb ⟨mm_blind k _ F, va_recv C.2.2.2.2.2.2.1 hP (ci := ci) (q0 := i) hcl (by rw [mm_at k F hi, hc]), mm_pre hP C.2.2.2.2.2.2.1 C.2.2.2.2.2.2.2.1 C.2.2.2.2.2.2.2.2.1⟩ rfl hn hl.1 rfl (lv_room hr) hdg ⟨Nat.zero_le _, Nat.zero_le _⟩) hS (fun H1 l1 hP1 hS1 => kk H1 l1 ls hP1 hS1 hl)
end MMC
end
